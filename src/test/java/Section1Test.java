/** Section 1 of the document, sentence by sentence: drivers and devices. */
public final class Section1Test {
    private static final int[] NO_INDEXES = {-1, Check.LEAST, Check.GREATEST};

    private Section1Test() {
    }

    public static void main(String[] args) {
        numberOfDrivers();
        registersAndVariables();
        storedNumbers();
        storedAtARestart();
        devicesKeepTheirRegisters();
        states();
        variablesWhileNotRunning();
        atFirst();
        Check.close("Section1Test");
    }

    private static void numberOfDrivers() {
        Check.says("There are 1 to 4 drivers, numbered from 0.");
        Check.rejects("drivers 0;", 2, 8);
        Check.rejects("drivers 5;", 2, 8);
        for (int count = 1; count <= 4; count++) {
            DriverHost host = Check.loaded("drivers " + count + ";command a pure time 1;");
            Check.due("driverCount", count, host::driverCount);
            for (int driver = 0; driver < count; driver++) {
                int asked = driver;
                Check.found("driver " + driver + " of " + count, () -> host.submit(asked, 0, 0, 0, 0));
                Check.found("driver " + driver + " of " + count, () -> host.poke(asked, 0, 0));
                Check.found("driver " + driver + " of " + count, () -> host.takeSnapshot(asked));
                Check.found("driver " + driver + " of " + count, () -> host.replace(asked));
                Check.found("driver " + driver + " of " + count, () -> host.kill(asked));
                Check.found("driver " + driver + " of " + count, () -> host.driverState(asked));
            }
            noSuchDriver(host, count);
            for (int driver : NO_INDEXES) {
                noSuchDriver(host, driver);
            }
        }
    }

    private static void noSuchDriver(DriverHost host, int driver) {
        String none = "throws.NoSuchElementException";
        Check.idle(host, "submit to " + driver, none, () -> host.submit(driver, 0, 0, 0, 0));
        Check.idle(host, "kill " + driver, none, () -> host.kill(driver));
        Check.idle(host, "replace " + driver, none, () -> host.replace(driver));
        Check.idle(host, "takeSnapshot " + driver, none, () -> host.takeSnapshot(driver));
        Check.idle(host, "poke " + driver, none, () -> host.poke(driver, 0, 0));
        Check.missing("driverState " + driver, () -> host.driverState(driver));
        Check.missing("downUntil " + driver, () -> host.downUntil(driver));
        Check.missing("streak " + driver, () -> host.streak(driver));
        Check.missing("register " + driver, () -> host.register(driver, 0));
        Check.missing("variable " + driver, () -> host.variable(driver, 0));
        Check.missing("saved " + driver, () -> host.saved(driver, 0));
        Check.missing("logSize " + driver, () -> host.logSize(driver));
        Check.missing("logged " + driver, () -> host.logged(driver, 0));
        Check.missing("inFlight " + driver, () -> host.inFlight(driver));
        Check.missing("nextRequest " + driver, () -> host.nextRequest(driver));
        Check.missing("queued " + driver, () -> host.queued(driver));
        Check.missing("availability " + driver, () -> host.availability(driver));
        Check.missing("meanTime " + driver, () -> host.meanTime(driver));
    }

    private static void registersAndVariables() {
        Check.says("Each has a device with the registers 0 to 7 and a memory with the variables 0 to 3.");
        DriverHost host = Check.loaded("drivers 4;");
        for (int driver = 0; driver < 4; driver++) {
            for (int index = 0; index <= 8; index++) {
                int d = driver;
                int i = index;
                Object register = index <= 7 ? 0 : "throws.NoSuchElementException";
                Object variable = index <= 3 ? 0 : "throws.NoSuchElementException";
                Check.due("register " + index, register, () -> host.register(d, i));
                Check.due("poke of register " + index, register, () -> host.poke(d, i, 0));
                Check.due("variable " + index, variable, () -> host.variable(d, i));
                Check.due("saved " + index, variable, () -> host.saved(d, i));
            }
            for (int index : NO_INDEXES) {
                int d = driver;
                Check.missing("register " + index, () -> host.register(d, index));
                Check.missing("poke of register " + index, () -> host.poke(d, index, 0));
                Check.missing("variable " + index, () -> host.variable(d, index));
                Check.missing("saved " + index, () -> host.saved(d, index));
            }
        }
    }

    private static void storedNumbers() {
        Check.says("Registers and variables are numbers from 0 to 65535, at first 0; a number that is stored in one is"
                + " reduced modulo 65536 (to 0 to 65535, also if it is negative).");
        int[] numbers = {0, 1, 65534, 65535, 65536, 65537, 131071, 131072, -1, -2, -65535, -65536, -65537, -131072,
            Check.GREATEST, Check.LEAST, Check.LEAST + 1};
        int[] stored = {0, 1, 65534, 65535, 0, 1, 65535, 0, 65535, 65534, 1, 0, 65535, 0, 65535, 0, 1};
        DriverHost host = Check.loaded("drivers 1;command s pure time 1 result arg set 0=arg set 7=res set 3=reg 7+0 "
                + "keep 0=arg keep 3=res keep 1=var 3+0;");
        for (int n = 0; n < numbers.length; n++) {
            String what = " with " + numbers[n];
            host.submit(0, 0, numbers[n], 0, 0);
            host.run(1);
            for (int register : new int[] {0, 7, 3}) {
                Check.due("register " + register + what, stored[n], () -> host.register(0, register));
            }
            for (int variable : new int[] {0, 3, 1}) {
                Check.due("variable " + variable + what, stored[n], () -> host.variable(0, variable));
            }
            host.takeSnapshot(0);
            Check.due("saved" + what, stored[n], () -> host.saved(0, 3));
            int request = n;
            Check.due("the result is not stored in one" + what, numbers[n], () -> host.request(request, 8));
        }
        DriverHost other = Check.loaded("drivers 1;command s pure time 1 result 0-65535*65535 set 0=0-1 set 1=65535+1 "
                + "keep 0=0-1 keep 1=65535+1;");
        other.submit(0, 0, 0, 0, 0);
        other.run(1);
        Check.due("0-1", 65535, () -> other.register(0, 0));
        Check.due("65535+1", 0, () -> other.register(0, 1));
        Check.due("0-1", 65535, () -> other.variable(0, 0));
        Check.due("65535+1", 0, () -> other.variable(0, 1));
    }

    private static void storedAtARestart() {
        DriverHost host = Check.loaded("drivers 1;command s pure time 1 result arg keep 0=arg keep 3=res-1;delay 1 1;");
        int[] numbers = {65536, -1, 0};
        int[] first = {0, 65535, 0};
        int[] last = {65535, 65534, 65535};
        for (int n = 0; n < numbers.length; n++) {
            host.submit(0, 0, numbers[n], 0, 0);
            host.run(1);
            host.kill(0);
            host.run(3);
            Check.due("restored from " + numbers[n], first[n], () -> host.variable(0, 0));
            Check.due("restored from " + numbers[n] + "-1", last[n], () -> host.variable(0, 3));
        }
    }

    private static void registersAre(String when, DriverHost host) {
        for (int register = 0; register < 8; register++) {
            int asked = register;
            Check.due("register " + register + " " + when, 65535 - register, () -> host.register(1, asked));
        }
    }

    private static void devicesKeepTheirRegisters() {
        Check.says("Devices keep their registers whatever happens to their drivers.");
        DriverHost host = Check.loaded("drivers 2;command a again time 3;streak 1;delay 1 1;calm 1000;");
        for (int register = 0; register < 8; register++) {
            host.poke(1, register, 65535 - register);
        }
        host.submit(1, 0, 0, 0, 0);
        host.run(1);
        host.kill(1);
        registersAre("after a crash", host);
        host.run(2);
        registersAre("while it is down", host);
        host.run(1);
        registersAre("after the restart", host);
        host.run(9);
        host.takeSnapshot(1);
        registersAre("after a snapshot", host);
        host.replace(1);
        registersAre("after a replacement", host);
        host.run(3);
        registersAre("after the handover", host);
        host.kill(1);
        registersAre("after the death", host);
        host.run(1000);
        registersAre("long after the death", host);
    }

    private static void states() {
        Check.says("A driver is in one of these states: 0 running; 1 down (until a certain clock); 2 dead.");
        DriverHost host = Check.loaded("drivers 4;streak 1;delay 3 3;calm 1000;");
        for (int driver = 0; driver < 4; driver++) {
            int asked = driver;
            Check.due("at first", 0, () -> host.driverState(asked));
            host.kill(driver);
            Check.due("after a crash", 1, () -> host.driverState(asked));
        }
        host.run(4);
        Check.due("before the end of the down time", 1, () -> host.driverState(0));
        host.run(1);
        Check.due("restarted", 0, () -> host.driverState(0));
        host.kill(0);
        Check.due("after one crash more", 2, () -> host.driverState(0));
        host.replace(1);
        Check.due("replaced", 1, () -> host.driverState(1));
        host.run(1000);
        Check.due("a dead one stays dead", 2, () -> host.driverState(0));
        Check.due("a replaced one runs again", 0, () -> host.driverState(1));
        Check.says("At first it is running.");
        for (int driver = 0; driver < 4; driver++) {
            int asked = driver;
            DriverHost fresh = Check.loaded("drivers 4;");
            Check.due("driver " + driver, 0, () -> fresh.driverState(asked));
        }
    }

    private static int sumOfVariables(DriverHost host) {
        return host.variable(1, 0) + host.variable(1, 1) + host.variable(1, 2) + host.variable(1, 3);
    }

    private static void variablesWhileNotRunning() {
        Check.says("While it is not running, its variables are 0.");
        DriverHost host = Check.loaded("drivers 2;command a pure time 1 keep 0=1 keep 1=20 keep 2=300 keep 3=4000;"
                + "streak 1;delay 2 2;handover 2;calm 1000;");
        host.submit(1, 0, 0, 0, 0);
        host.run(1);
        Check.due("running", 4321, () -> sumOfVariables(host));
        host.replace(1);
        Check.due("replaced", 0, () -> sumOfVariables(host));
        host.run(2);
        Check.due("still down", 0, () -> sumOfVariables(host));
        host.run(1);
        Check.due("restarted", 4321, () -> sumOfVariables(host));
        host.kill(1);
        Check.due("crashed", 0, () -> sumOfVariables(host));
        host.run(3);
        Check.due("still down", 0, () -> sumOfVariables(host));
        host.run(1);
        Check.due("restarted", 4321, () -> sumOfVariables(host));
        host.kill(1);
        Check.due("dead", 0, () -> sumOfVariables(host));
        host.run(1000);
        Check.due("still dead", 0, () -> sumOfVariables(host));
        DriverHost other = Check.loaded("drivers 2;command a again time 1 keep 0=7;poison 20;");
        other.submit(1, 0, 0, 0, 0);
        other.submit(1, 0, 0, 0, 0);
        other.plan(1, 2, 1);
        other.run(2);
        Check.due("crashed by its plan", 0, () -> sumOfVariables(other));
    }

    private static void atFirst() {
        DriverHost host = Check.loaded("drivers 4;");
        for (int driver = 0; driver < 4; driver++) {
            int asked = driver;
            Check.says("The crash streak of a driver is at first 0.");
            Check.due("streak of " + driver, 0, () -> host.streak(asked));
            Check.says("It has a snapshot, four numbers (at first 0), and a log of completed requests"
                    + " (at first empty).");
            for (int variable = 0; variable < 4; variable++) {
                int number = variable;
                Check.due("saved " + variable, 0, () -> host.saved(asked, number));
            }
            Check.due("logSize of " + driver, 0, () -> host.logSize(asked));
            Check.due("logged of " + driver, -1, () -> host.logged(asked, 0));
        }
    }
}
