/** Promises 8 and 18, and sections 2, 4 and 5: what a tick does. */
public final class TickTest {
    private TickTest() {
    }

    public static void main(String[] args) {
        promises8And18Run();
        promise18LastClock();
        effects();
        arithmetic();
        keepings();
        stepBTimeLimits();
        stepBBeforeBeginning();
        stepsAreTakenInOrder();
        stepECalm();
        restorationFromSnapshotAndLog();
        decisions();
        checkIsCompletedAtTheRestart();
        testsOfCheck();
        poison();
        poisonBeforeDeath();
        growingDelays();
        snapshotInterval();
        Check.close("TickTest");
    }

    private static void promises8And18Run() {
        DriverHost host = Check.loaded("drivers 2;command a pure time 2;");
        for (int wrong : new int[] {-1, 1001, Integer.MAX_VALUE, Integer.MIN_VALUE}) {
            Check.refused("run " + wrong, () -> host.run(wrong));
        }
        Check.due("no operation", 0, host::undoCount);
        Check.due("run(0)", 0, () -> host.run(0));
        Check.due("is an operation", 1, host::undoCount);
        Check.due("clock", 0, host::clock);
        for (int n = 0; n < 5; n++) {
            host.submit(n % 2, 0, 0, 0, 0);
        }
        Check.due("too short for any", 0, () -> host.run(1));
        Check.due("clock", 1, host::clock);
        Check.due("one of each driver", 2, () -> host.run(1));
        Check.due("the rest", 3, () -> host.run(1000));
        Check.due("clock", 1002, host::clock);
        Check.due("nothing to do", 0, () -> host.run(1000));
    }

    private static void promise18LastClock() {
        DriverHost host = Check.loaded("drivers 1;command a pure time 1;");
        for (int n = 0; n < 999; n++) {
            host.run(1000);
        }
        Check.due("clock", 999000, host::clock);
        host.run(1);
        String before = Check.all(host);
        Check.due("the clock would be 1000001", -4, () -> host.run(1000));
        Check.due("nothing changed", before, () -> Check.all(host));
        Check.due("ten operations", 10, host::undoCount);
        Check.refused("1001 is looked at before", () -> host.run(1001));
        Check.due("the clock becomes 1000000", 0, () -> host.run(999));
        Check.due("clock", 1000000, host::clock);
        Check.due("one more", -4, () -> host.run(1));
        Check.due("none more", 0, () -> host.run(0));
        host.submit(0, 0, 0, 0, 0);
        Check.due("forecast at the last clock", -1, () -> host.forecast(0));
        Check.refused("bestDelay at the last clock", () -> host.bestDelay(1));
        Check.due("bestDelay without a tick", 1, () -> host.bestDelay(0));
        host.undo();
        host.undo();
        host.undo();
        Check.due("undone", 999001, host::clock);
        Check.refused("bestDelay", () -> host.bestDelay(201));
        host.run(900);
        Check.due("clock", 999901, host::clock);
        Check.refused("bestDelay would exceed the last clock", () -> host.bestDelay(100));
        Check.due("bestDelay reaches the last clock", 1, () -> host.bestDelay(99));
        host.submit(0, 0, 0, 0, 0);
        host.run(0);
        Check.due("forecast", 1, () -> host.forecast(0));
        host.replace(0);
        host.plan(0, 1, 20);
        Check.due("availability", 1.0, () -> host.availability(0));
    }

    private static void effects() {
        DriverHost host = Check.loaded("drivers 1;command a pure time 1 result reg 0+10 set 0=5 set 1=reg 0+res "
                + "set 0=reg 1*2 set 2=reg 0-arg;command b pure time 1;");
        host.poke(0, 0, 3);
        host.submit(0, 0, 1, 0, 0);
        host.submit(0, 1, 1, 0, 0);
        host.run(1);
        Check.due("the result is computed before the settings", 13, () -> host.request(0, 8));
        Check.due("a setting sees the one before it", 18, () -> host.register(0, 1));
        Check.due("a register is set twice", 36, () -> host.register(0, 0));
        Check.due("and seen as it was left", 35, () -> host.register(0, 2));
        host.run(1);
        Check.due("a missing result is 0", 0, () -> host.request(1, 8));
        Check.due("executions", 1, () -> host.request(1, 9));
    }

    private static void arithmetic() {
        DriverHost host = Check.loaded("drivers 1;command a pure time 1 result arg*arg+1;"
                + "command b pure time 1 result 10-3-2*2-1;command c pure time 1 result (10-(3-2))*2;"
                + "command d pure time 1 result 65535*65535*65535;command e pure time 1 result arg-1;"
                + "command f pure time 1 result 2+3*4-1*2*3;");
        int[] commands = {0, 1, 2, 3, 4, 5, 0};
        int[] arguments = {65536, 0, 0, 0, Integer.MIN_VALUE, 0, 46341};
        int[] results = {1, 2, 18, 65535 * 65535 * 65535, Integer.MAX_VALUE, 8, 46341 * 46341 + 1};
        for (int n = 0; n < commands.length; n++) {
            int request = n;
            host.submit(0, commands[n], arguments[n], 0, 0);
            host.run(1);
            Check.due("result of command " + commands[n], results[n], () -> host.request(request, 8));
        }
    }

    private static void keepings() {
        DriverHost host = Check.loaded("drivers 1;command a pure time 2 result arg+var 0 set 0=var 0 keep 0=var 0+res "
                + "keep 1=var 0*2 keep 0=var 1+1;");
        host.submit(0, 0, 3, 0, 0);
        host.run(1);
        Check.due("nothing is kept before the completion", 0, () -> host.variable(0, 0));
        host.run(1);
        Check.due("a keeping sees the one before it", 6, () -> host.variable(0, 1));
        Check.due("a variable is kept twice", 7, () -> host.variable(0, 0));
        Check.due("the setting saw the variable before", 0, () -> host.register(0, 0));
        host.submit(0, 0, 1, 0, 0);
        host.run(2);
        Check.due("result with the variable", 8, () -> host.request(1, 8));
        Check.due("register", 7, () -> host.register(0, 0));
        Check.due("variable", 31, () -> host.variable(0, 0));
    }

    private static void stepBTimeLimits() {
        DriverHost host = Check.loaded("drivers 1;command a again time 3;");
        host.submit(0, 0, 0, 3, 1);
        host.submit(0, 0, 0, 0, 3);
        host.submit(0, 0, 0, 0, 4);
        host.submit(0, 0, 0, 0, 0);
        host.run(3);
        Check.due("one in flight is never too late", 2, () -> host.request(0, 6));
        Check.due("the limit is not reached before its tick", 0, () -> host.request(1, 6));
        host.run(1);
        Check.due("too late", 1, () -> host.request(1, 7));
        Check.due("at the clock", 3, () -> host.request(1, 14));
        Check.due("the next one is begun instead", 2, () -> host.inFlight(0));
        host.run(500);
        Check.due("without a limit", 2, () -> host.request(3, 6));
        Check.due("in its time", 2, () -> host.request(2, 6));
        DriverHost other = Check.loaded("drivers 2;command a again time 1;delay 50 50;");
        other.kill(1);
        other.submit(1, 0, 0, 0, 2);
        other.submit(1, 0, 0, 3, 2);
        other.run(3);
        Check.due("also while it is down", 1, () -> other.request(0, 7) * other.request(1, 7));
        Check.due("in ascending order", 0, () -> other.record(3, 3));
        Check.due("in ascending order", 1, () -> other.record(4, 3));
    }

    private static void stepBBeforeBeginning() {
        DriverHost host = Check.loaded("drivers 1;command a again time 2;delay 1 1;");
        host.submit(0, 0, 0, 0, 3);
        host.run(1);
        host.kill(0);
        host.run(3);
        Check.due("the returned one is too late", 1, () -> host.request(0, 7));
        int[] events = {0, 1, 4, 5, 7, 3};
        for (int n = 0; n < events.length; n++) {
            int record = n;
            Check.due("event " + n, events[n], () -> host.record(record, 1));
        }
        Check.due("no more than that", events.length, host::recordCount);
        Check.due("none queued", 0, () -> host.queued(0));
        Check.due("no next one", -1, () -> host.nextRequest(0));
        host.submit(0, 0, 0, 0, 0);
        host.run(2);
        Check.due("the driver works on", 2, () -> host.request(1, 6));
    }

    private static void stepsAreTakenInOrder() {
        DriverHost host = Check.loaded("drivers 3;command a pure time 1;every 1;");
        host.submit(2, 0, 0, 0, 0);
        host.submit(0, 0, 0, 0, 0);
        host.submit(0, 0, 0, 0, 0);
        host.run(2);
        int[] events = {0, 0, 0, 1, 2, 6, 1, 2, 6, 1, 2, 6};
        int[] drivers = {2, 0, 0, 0, 0, 0, 2, 2, 2, 0, 0, 0};
        int[] clocks = {0, 0, 0, 0, 0, 0, 0, 0, 0, 1, 1, 1};
        Check.due("records", events.length, host::recordCount);
        for (int n = 0; n < events.length; n++) {
            int record = n;
            Check.due("clock " + n, clocks[n], () -> host.record(record, 0));
            Check.due("event " + n, events[n], () -> host.record(record, 1));
            Check.due("driver " + n, drivers[n], () -> host.record(record, 2));
        }
    }

    private static void stepECalm() {
        DriverHost host = Check.loaded("drivers 1;calm 1;delay 1 8;command a again time 1;poison 20;");
        host.submit(0, 0, 0, 0, 0);
        host.plan(0, 1, 3);
        host.run(1);
        Check.due("a driver that crashed in this tick is not calm", 1, () -> host.streak(0));
        host.run(2);
        Check.due("nor one that crashed at once again", 2, () -> host.streak(0));
        host.run(100);
        Check.due("calm", 0, () -> host.streak(0));
        DriverHost other = Check.loaded("drivers 1;calm 5;");
        other.run(2);
        other.kill(0);
        other.run(7);
        Check.due("clock", 9, other::clock);
        Check.due("not calm yet", 1, () -> other.streak(0));
        other.run(1);
        Check.due("calm", 0, () -> other.streak(0));
    }

    private static void restorationFromSnapshotAndLog() {
        DriverHost host = Check.loaded("drivers 1;command a pure time 1 result reg 0 keep 0=var 0*2+arg "
                + "keep 1=var 1+res;command b pure time 1 set 0=arg;every 3;");
        host.poke(0, 0, 100);
        for (int argument = 1; argument <= 5; argument++) {
            host.submit(0, 0, argument, 0, 0);
        }
        host.run(5);
        Check.due("variable 0", 57, () -> host.variable(0, 0));
        Check.due("variable 1", 500, () -> host.variable(0, 1));
        Check.due("saved 0", 11, () -> host.saved(0, 0));
        Check.due("log", 2, () -> host.logSize(0));
        host.poke(0, 0, 7);
        host.kill(0);
        Check.due("the variables are lost", 0, () -> host.variable(0, 0) + host.variable(0, 1));
        Check.due("the registers are not", 7, () -> host.register(0, 0));
        host.run(4);
        Check.due("restored in order", 57, () -> host.variable(0, 0));
        Check.due("with the results that they had", 500, () -> host.variable(0, 1));
        Check.due("the log stays", 2, () -> host.logSize(0));
        Check.due("nothing is completed again", 5, () -> host.total(2));
    }

    private static void decisions() {
        DriverHost host = Check.loaded("drivers 4;command p pure time 1 set 0=reg 0+1;"
                + "command a again time 1 set 0=reg 0+1;command o once time 1 set 0=reg 0+1;"
                + "command c check reg 0=1 time 1 result reg 0*10+arg set 0=reg 0+1;delay 1 1;");
        for (int n = 0; n < 4; n++) {
            host.submit(n, n, 3, 0, 0);
            host.plan(n, 2, 1);
        }
        host.run(3);
        Check.due("pure is executed again", 2, () -> host.register(0, 0) * (host.request(0, 6) / 2));
        Check.due("again is executed again", 2, () -> host.register(1, 0) * (host.request(1, 6) / 2));
        Check.due("once is not executed again", 1, () -> host.register(2, 0));
        Check.due("once fails with 2", 2, () -> host.request(2, 7));
        Check.due("check is not executed again", 1, () -> host.register(3, 0));
        Check.due("check is completed", 2, () -> host.request(3, 6));
        Check.due("its result is computed then", 13, () -> host.request(3, 8));
        Check.due("its executions", 1, () -> host.request(3, 9));
        Check.due("queued again", 2, () -> host.total(7));
        DriverHost other = Check.loaded("drivers 1;command c check reg 0=1 time 1 result reg 0*10+arg set 0=reg 0+1;"
                + "delay 1 1;");
        other.submit(0, 0, 3, 0, 0);
        other.plan(0, 1, 1);
        other.run(3);
        Check.due("a check that does not hold is executed again", 1, () -> other.total(7));
        Check.due("its result", 3, () -> other.request(0, 8));
        Check.due("its executions", 1, () -> other.request(0, 9));
        Check.due("the returned one is begun twice", 2, () -> other.total(1));
    }

    private static void checkIsCompletedAtTheRestart() {
        DriverHost host = Check.loaded("drivers 1;command c check reg 0=arg time 1 result var 0+reg 0 set 0=arg "
                + "keep 0=var 0+1 keep 1=res;every 1;delay 1 1;");
        host.submit(0, 0, 4, 0, 0);
        host.run(1);
        host.submit(0, 0, 9, 0, 0);
        host.plan(1, 2, 1);
        host.run(2);
        Check.due("down", 1, () -> host.driverState(0));
        Check.due("no result yet", 0, () -> host.request(1, 8));
        Check.due("run counts it", 1, () -> host.run(1));
        Check.due("with the memory that was restored", 1 + 9, () -> host.request(1, 8));
        Check.due("the keepings are done", 2, () -> host.variable(0, 0));
        Check.due("with the result", 10, () -> host.variable(0, 1));
        int last = host.recordCount() - 1;
        Check.due("snapshot last", 6, () -> host.record(last, 1));
        Check.due("completion before it", 2, () -> host.record(last - 1, 1));
        Check.due("restart before it", 5, () -> host.record(last - 2, 1));
        Check.due("saved", 2, () -> host.saved(0, 0));
    }

    private static void testsOfCheck() {
        String[] tests = {"1<2", "2<1", "1=1", "1>1", "2>1", "not 1=1", "not not 1=1", "1=1 or 1=1 and 1=2",
            "[1=1 or 1=1] and 1=2", "not 1=2 and 1=2", "not [1=2 and 1=2]", "arg<0", "arg+1=reg 2-5", "reg 2*arg<0",
            "1=2 or 1=2 or 1=1", "1=1 and 1=1 and 1=2", "arg-arg-1<0"};
        boolean[] holds = {true, false, true, false, true, false, true, true, false, false, true, true, true, true,
            true, false, true};
        for (int n = 0; n < tests.length; n++) {
            DriverHost host = Check.loaded("drivers 1;command c check " + tests[n] + " time 2;");
            host.poke(0, 2, 1);
            host.submit(0, 0, -5, 0, 0);
            host.run(1);
            Check.due("decision by " + tests[n], holds[n] ? 1 : 0, () -> host.decision(0));
        }
    }

    private static void poison() {
        DriverHost host = Check.loaded("drivers 1;command a pure time 1;poison 2;delay 1 1;streak 20;");
        host.submit(0, 0, 0, 0, 0);
        host.submit(0, 0, 0, 0, 0);
        host.plan(0, 1, 20);
        host.run(1);
        Check.due("one crash is not enough", 1, () -> host.request(0, 6));
        host.run(2);
        Check.due("poisoned at once", 3, () -> host.request(0, 7));
        Check.due("at the clock of the crash", 2, () -> host.request(0, 14));
        Check.due("times left", 18, () -> host.request(0, 13));
        int last = host.recordCount() - 1;
        Check.due("the failure comes last", 3, () -> host.record(last, 1));
        Check.due("the crash before it", 4, () -> host.record(last - 1, 1));
        host.run(10);
        Check.due("the next one is completed", 2, () -> host.request(1, 6));
        Check.due("one failure", 1, () -> host.total(3));
    }

    private static void poisonBeforeDeath() {
        DriverHost host = Check.loaded("drivers 1;command a pure time 1;poison 1;streak 0;");
        host.submit(0, 0, 0, 0, 0);
        host.submit(0, 0, 0, 0, 0);
        host.plan(0, 1, 1);
        host.run(1);
        Check.due("poisoned, not lost", 3, () -> host.request(0, 7));
        Check.due("lost", 5, () -> host.request(1, 7));
        int[] events = {0, 0, 1, 4, 3, 8, 3};
        Check.due("records", events.length, host::recordCount);
        for (int n = 0; n < events.length; n++) {
            int record = n;
            Check.due("event " + n, events[n], () -> host.record(record, 1));
        }
    }

    private static void growingDelays() {
        DriverHost host = Check.loaded("drivers 1;delay 3 20;streak 20;calm 1000;");
        for (int delay : new int[] {3, 6, 12, 20, 20, 20}) {
            int want = host.clock() + 1 + delay;
            host.kill(0);
            Check.due("delay", want, () -> host.downUntil(0));
            host.run(delay + 2);
        }
        DriverHost other = Check.loaded("drivers 1;delay 100 1000;streak 20;calm 1000;");
        for (int n = 0; n < 20; n++) {
            int want = other.clock() + 1 + (n == 0 ? 100 : n == 1 ? 200 : n == 2 ? 400 : n == 3 ? 800 : 1000);
            other.kill(0);
            Check.due("delay", want, () -> other.downUntil(0));
            other.run(1000);
            other.run(2);
        }
        Check.due("streak", 20, () -> other.streak(0));
        Check.due("the streak limit is passed", 2, () -> other.kill(0));
    }

    private static void snapshotInterval() {
        for (int every : new int[] {1, 2, 20}) {
            DriverHost host = Check.loaded("drivers 1;command a pure time 1 keep 0=var 0+1;every " + every + ";");
            for (int n = 0; n < 45; n++) {
                host.submit(0, 0, 0, 0, 0);
            }
            host.run(45);
            Check.due("snapshots", 45 / every, () -> host.total(6));
            Check.due("log", 45 % every, () -> host.logSize(0));
            Check.due("saved", 45 / every * every, () -> host.saved(0, 0));
            Check.due("variable", 45, () -> host.variable(0, 0));
            host.kill(0);
            host.run(4);
            Check.due("restored", 45, () -> host.variable(0, 0));
        }
    }
}
