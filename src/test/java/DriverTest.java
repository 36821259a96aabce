/** Promises 14 to 17 and 19 to 27: drivers and devices, from outside. */
public final class DriverTest {
    private DriverTest() {
    }

    public static void main(String[] args) {
        promise14Kill();
        promise14KillWithARequestInFlight();
        promise14KillToDeath();
        promise15Replace();
        promise15Refusals();
        promise16TakeSnapshot();
        promise17Poke();
        promises19To27WrongDrivers();
        promise20DownUntil();
        promise21Streak();
        promises22To24Cells();
        promises25And26Log();
        promise27InFlight();
        Check.close("DriverTest");
    }

    private static void promise14Kill() {
        DriverHost host = Check.loaded("drivers 2;delay 3 5;");
        Check.missing("driver 2", () -> host.kill(2));
        Check.missing("driver -1", () -> host.kill(-1));
        Check.due("kill", 1, () -> host.kill(1));
        Check.due("state", 1, () -> host.driverState(1));
        Check.due("down until", 4, () -> host.downUntil(1));
        Check.due("streak", 1, () -> host.streak(1));
        Check.due("the other driver runs", 0, () -> host.driverState(0));
        Check.due("a driver that is down", -2, () -> host.kill(1));
        Check.due("one operation", 1, host::undoCount);
        host.run(4);
        Check.due("still down", 1, () -> host.driverState(1));
        host.run(1);
        Check.due("restarted", 0, () -> host.driverState(1));
        Check.due("kill again", 1, () -> host.kill(1));
        Check.due("the delay is at most the greatest one", 5 + 1 + 5, () -> host.downUntil(1));
    }

    private static void promise14KillWithARequestInFlight() {
        DriverHost host = Check.loaded("drivers 1;command a again time 9;poison 2;");
        host.submit(0, 0, 0, 0, 0);
        host.run(2);
        host.kill(0);
        Check.due("one crash of the request", 1, () -> host.request(0, 10));
        Check.due("still in flight", 1, () -> host.request(0, 6));
        host.run(10);
        Check.due("in flight again", 0, () -> host.inFlight(0));
        host.kill(0);
        Check.due("poisoned", 3, () -> host.request(0, 7));
        Check.due("at this clock", 12, () -> host.request(0, 14));
        Check.due("none in flight", -1, () -> host.inFlight(0));
        Check.due("the driver is only down", 1, () -> host.driverState(0));
    }

    private static void promise14KillToDeath() {
        promise14DeathLosesTheVariables();
        DriverHost host = Check.loaded("drivers 1;command a again time 9 keep 0=1;streak 0;");
        host.submit(0, 0, 0, 0, 0);
        host.submit(0, 0, 0, 3, 0);
        host.submit(0, 0, 0, 0, 0);
        host.run(1);
        Check.due("the second is in flight", 1, () -> host.inFlight(0));
        Check.due("kill", 2, () -> host.kill(0));
        Check.due("dead", 2, () -> host.driverState(0));
        Check.due("not down", -1, () -> host.downUntil(0));
        for (int n = 0; n < 3; n++) {
            int request = n;
            Check.due("failure", 5, () -> host.request(request, 7));
        }
        int[] events = {0, 0, 0, 1, 4, 8, 3, 3, 3};
        int[] requests = {0, 1, 2, 1, -1, -1, 0, 1, 2};
        Check.due("records", events.length, host::recordCount);
        for (int n = 0; n < events.length; n++) {
            int record = n;
            Check.due("event " + n, events[n], () -> host.record(record, 1));
            Check.due("request of event " + n, requests[n], () -> host.record(record, 3));
        }
        Check.due("a dead driver", -2, () -> host.kill(0));
        host.run(1000);
        Check.due("it stays dead", 2, () -> host.driverState(0));
        Check.due("its streak stays", 1, () -> host.streak(0));
    }

    private static void promise14DeathLosesTheVariables() {
        DriverHost host = Check.loaded("drivers 1;command a pure time 1 set 0=5 keep 0=6 keep 3=7;streak 0;every 1;");
        host.submit(0, 0, 0, 0, 0);
        host.run(1);
        Check.due("kept", 67, () -> host.variable(0, 0) * 10 + host.variable(0, 3));
        Check.due("kill", 2, () -> host.kill(0));
        Check.due("the variables are 0", 0, () -> host.variable(0, 0) + host.variable(0, 3));
        Check.due("the snapshot stays", 67, () -> host.saved(0, 0) * 10 + host.saved(0, 3));
        Check.due("the register stays", 5, () -> host.register(0, 0));
    }

    private static void promise15Replace() {
        DriverHost host = Check.loaded("drivers 2;command a pure time 1 keep 0=arg keep 3=7;handover 5;calm 50;");
        host.kill(1);
        host.run(4);
        host.submit(1, 0, 9, 0, 0);
        host.run(1);
        Check.due("replace", 10, () -> host.replace(1));
        Check.due("down", 1, () -> host.driverState(1));
        Check.due("down until", 10, () -> host.downUntil(1));
        Check.due("streak", 1, () -> host.streak(1));
        Check.due("variables", 0, () -> host.variable(1, 0) + host.variable(1, 3));
        Check.due("snapshot", 97, () -> host.saved(1, 0) * 10 + host.saved(1, 3));
        Check.due("log", 0, () -> host.logSize(1));
        Check.due("a record of a snapshot", 6, () -> host.record(host.recordCount() - 1, 1));
        Check.due("no further crash", 1, () -> host.total(4));
        Check.due("a driver that is down", -2, () -> host.replace(1));
        host.run(5);
        Check.due("still down", 1, () -> host.driverState(1));
        host.run(1);
        Check.due("restarted", 0, () -> host.driverState(1));
        Check.due("variables", 97, () -> host.variable(1, 0) * 10 + host.variable(1, 3));
        Check.due("the restart is recorded", 2, () -> host.total(5));
        Check.due("at its clock", 10, () -> host.record(host.recordCount() - 1, 0));
    }

    private static void promise15Refusals() {
        DriverHost host = Check.loaded("drivers 1;command a pure time 5;streak 1;");
        Check.missing("driver 1", () -> host.replace(1));
        Check.missing("driver -1", () -> host.replace(-1));
        host.submit(0, 0, 0, 0, 0);
        host.run(1);
        String before = Check.all(host);
        Check.due("a request in flight", -3, () -> host.replace(0));
        Check.due("nothing changed", before, () -> Check.all(host));
        host.kill(0);
        Check.due("down with a request in flight", -2, () -> host.replace(0));
        host.run(4);
        host.kill(0);
        Check.due("dead", -2, () -> host.replace(0));
        Check.due("operations", 5, host::undoCount);
        DriverHost other = Check.loaded("drivers 1;command a pure time 1;");
        other.submit(0, 0, 0, 0, 0);
        Check.due("with a queued request", 1, () -> other.replace(0));
        other.run(2);
        Check.due("which is done afterwards", 1, () -> other.request(0, 14));
    }

    private static void promise16TakeSnapshot() {
        DriverHost host = Check.loaded("drivers 2;command a pure time 1 keep 2=var 2+arg;every 20;");
        Check.missing("driver 2", () -> host.takeSnapshot(2));
        Check.missing("driver -1", () -> host.takeSnapshot(-1));
        for (int n = 0; n < 3; n++) {
            host.submit(1, 0, 5, 0, 0);
        }
        host.run(3);
        Check.due("log", 3, () -> host.logSize(1));
        Check.due("saved before", 0, () -> host.saved(1, 2));
        Check.due("takeSnapshot", 3, () -> host.takeSnapshot(1));
        Check.due("saved", 15, () -> host.saved(1, 2));
        Check.due("log", 0, () -> host.logSize(1));
        Check.due("variable", 15, () -> host.variable(1, 2));
        Check.due("record", 6, () -> host.record(host.recordCount() - 1, 1));
        Check.due("its driver", 1, () -> host.record(host.recordCount() - 1, 2));
        Check.due("its request", -1, () -> host.record(host.recordCount() - 1, 3));
        Check.due("takeSnapshot of an empty log", 0, () -> host.takeSnapshot(1));
        Check.due("both are recorded", 2, () -> host.total(6));
        host.kill(1);
        Check.due("a driver that is down", -2, () -> host.takeSnapshot(1));
        Check.due("saved is left", 15, () -> host.saved(1, 2));
        Check.due("operations", 7, host::undoCount);
    }

    private static void promise17Poke() {
        DriverHost host = Check.loaded("drivers 2;streak 0;");
        for (int wrong : new int[] {-1, 2, Integer.MIN_VALUE}) {
            Check.missing("driver " + wrong, () -> host.poke(wrong, 0, 0));
            Check.missing("driver " + wrong + " before the value", () -> host.poke(wrong, 0, -1));
        }
        for (int wrong : new int[] {-1, 8, Integer.MAX_VALUE, Integer.MIN_VALUE}) {
            Check.missing("register " + wrong, () -> host.poke(0, wrong, 0));
            Check.missing("register " + wrong + " before the value", () -> host.poke(0, wrong, 65536));
        }
        for (int wrong : new int[] {-1, 65536, Integer.MAX_VALUE, Integer.MIN_VALUE}) {
            Check.refused("value " + wrong, () -> host.poke(0, 0, wrong));
        }
        Check.due("no operation", 0, host::undoCount);
        Check.due("poke", 0, () -> host.poke(1, 7, 65535));
        Check.due("poke", 65535, () -> host.poke(1, 7, 0));
        Check.due("poke", 0, () -> host.poke(1, 7, 12));
        Check.due("register", 12, () -> host.register(1, 7));
        Check.due("the other device", 0, () -> host.register(0, 7));
        Check.due("variables are no registers", 0, () -> host.variable(1, 0));
        host.kill(1);
        Check.due("a device outlives its driver", 12, () -> host.poke(1, 7, 13));
        Check.due("no record", 2, host::recordCount);
    }

    private static void promises19To27WrongDrivers() {
        DriverHost host = Check.loaded("drivers 3;");
        for (int wrong : new int[] {-1, 3, 4, Integer.MAX_VALUE, Integer.MIN_VALUE}) {
            Check.missing("driverState", () -> host.driverState(wrong));
            Check.missing("downUntil", () -> host.downUntil(wrong));
            Check.missing("streak", () -> host.streak(wrong));
            Check.missing("register", () -> host.register(wrong, 0));
            Check.missing("variable", () -> host.variable(wrong, 0));
            Check.missing("saved", () -> host.saved(wrong, 0));
            Check.missing("logSize", () -> host.logSize(wrong));
            Check.missing("logged", () -> host.logged(wrong, 0));
            Check.missing("inFlight", () -> host.inFlight(wrong));
            Check.missing("nextRequest", () -> host.nextRequest(wrong));
            Check.missing("queued", () -> host.queued(wrong));
            Check.missing("availability", () -> host.availability(wrong));
            Check.missing("meanTime", () -> host.meanTime(wrong));
        }
        for (int d = 0; d < 3; d++) {
            int driver = d;
            Check.due("driverState", 0, () -> host.driverState(driver));
        }
    }

    private static void promise20DownUntil() {
        DriverHost host = Check.loaded("drivers 1;streak 1;handover 50;");
        Check.due("running", -1, () -> host.downUntil(0));
        host.run(7);
        host.kill(0);
        Check.due("down", 10, () -> host.downUntil(0));
        host.run(3);
        Check.due("the end of its down time is reached, but no tick passed", 10, () -> host.downUntil(0));
        host.run(1);
        Check.due("running again", -1, () -> host.downUntil(0));
        host.replace(0);
        Check.due("replaced", 61, () -> host.downUntil(0));
        host.run(51);
        Check.due("the streak stayed, so this is its death", 2, () -> host.kill(0));
        Check.due("dead", -1, () -> host.downUntil(0));
    }

    private static void promise21Streak() {
        DriverHost host = Check.loaded("drivers 1;streak 3;calm 4;delay 1 1;");
        Check.due("at first", 0, () -> host.streak(0));
        host.kill(0);
        host.run(3);
        host.kill(0);
        Check.due("twice", 2, () -> host.streak(0));
        host.run(3 + 2);
        Check.due("before the calm time", 2, () -> host.streak(0));
        host.run(1);
        Check.due("after the calm time", 0, () -> host.streak(0));
        host.kill(0);
        Check.due("it starts anew", 1, () -> host.streak(0));
        host.run(1000);
        Check.due("and ends again", 0, () -> host.streak(0));
    }

    private static void promises22To24Cells() {
        DriverHost host = Check.loaded("drivers 2;command a pure time 1 result arg set 0=res set 7=res+1 "
                + "keep 0=res keep 3=res+1;");
        host.submit(1, 0, 65535, 0, 0);
        host.run(1);
        Check.due("register 0", 65535, () -> host.register(1, 0));
        Check.due("register 7 modulo 65536", 0, () -> host.register(1, 7));
        Check.due("variable 0", 65535, () -> host.variable(1, 0));
        Check.due("variable 3 modulo 65536", 0, () -> host.variable(1, 3));
        host.submit(1, 0, -2, 0, 0);
        host.run(1);
        Check.due("a negative number modulo 65536", 65534, () -> host.register(1, 0));
        Check.due("a negative number modulo 65536", 65535, () -> host.variable(1, 3));
        Check.due("the result is not reduced", -2, () -> host.request(1, 8));
        Check.due("saved", 0, () -> host.saved(1, 0));
        host.takeSnapshot(1);
        Check.due("saved", 65534, () -> host.saved(1, 0));
        Check.due("saved", 65535, () -> host.saved(1, 3));
        Check.due("the other driver", 0, () -> host.register(0, 0) + host.variable(0, 0) + host.saved(0, 0));
        for (int wrong : new int[] {-1, 8, 12, Integer.MAX_VALUE, Integer.MIN_VALUE}) {
            Check.missing("register " + wrong, () -> host.register(0, wrong));
        }
        for (int wrong : new int[] {-1, 4, Integer.MAX_VALUE, Integer.MIN_VALUE}) {
            Check.missing("variable " + wrong, () -> host.variable(0, wrong));
            Check.missing("saved " + wrong, () -> host.saved(0, wrong));
        }
    }

    private static void promises25And26Log() {
        DriverHost host = Check.loaded("drivers 2;command a pure time 1;every 3;");
        for (int n = 0; n < 5; n++) {
            host.submit(1, 0, 0, n % 2, 0);
        }
        Check.due("logSize", 0, () -> host.logSize(1));
        Check.due("logged", -1, () -> host.logged(1, 0));
        host.run(2);
        Check.due("logSize", 2, () -> host.logSize(1));
        Check.due("logged in the order of completion", 1, () -> host.logged(1, 0));
        Check.due("logged in the order of completion", 3, () -> host.logged(1, 1));
        Check.due("logged", -1, () -> host.logged(1, 2));
        Check.due("logged far behind", -1, () -> host.logged(1, Integer.MAX_VALUE));
        Check.missing("logged(-1)", () -> host.logged(1, -1));
        Check.missing("logged of the least int", () -> host.logged(1, Integer.MIN_VALUE));
        host.run(1);
        Check.due("emptied by the snapshot", 0, () -> host.logSize(1));
        Check.due("logged", -1, () -> host.logged(1, 0));
        host.run(1);
        Check.due("logged", 2, () -> host.logged(1, 0));
        host.kill(1);
        Check.due("a crash keeps the log", 1, () -> host.logSize(1));
        Check.due("the other driver", 0, () -> host.logSize(0));
    }

    private static void promise27InFlight() {
        DriverHost host = Check.loaded("drivers 2;command a again time 2;");
        host.submit(1, 0, 0, 0, 0);
        Check.due("not yet", -1, () -> host.inFlight(1));
        host.run(1);
        Check.due("begun", 0, () -> host.inFlight(1));
        Check.due("the other driver", -1, () -> host.inFlight(0));
        host.kill(1);
        Check.due("down", 0, () -> host.inFlight(1));
        host.run(5);
        Check.due("completed", 2, () -> host.request(0, 6));
        Check.due("none", -1, () -> host.inFlight(1));
    }
}
