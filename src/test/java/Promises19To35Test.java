import java.util.function.IntFunction;

/** The promises 19 to 35, sentence by sentence: what can be asked of drivers, requests and records. */
public final class Promises19To35Test {
    private Promises19To35Test() {
    }

    public static void main(String[] args) {
        driverState();
        downUntil();
        streak();
        registersVariablesAndSaved();
        logSizeAndLogged();
        loggedAtTheSnapshotInterval();
        inFlight();
        nextRequest();
        queued();
        request();
        requestRemainingTime();
        requestFailureAndResult();
        requestEnd();
        recordCountAndRecord();
        total();
        availability();
        meanTime();
        meanTimeIsAFloat();
        Check.close("Promises19To35Test");
    }

    private static void noDriver(DriverHost host, String what, IntFunction<Object> call) {
        Check.says("Throws `NoSuchElementException` if there is no such driver");
        int count = host.driverCount();
        for (int wrong : new int[] {-1, count, 4, Check.LEAST, Check.GREATEST}) {
            Check.missing(what + " " + wrong, () -> call.apply(wrong));
        }
        Check.found(what + " " + (count - 1), () -> call.apply(count - 1));
        Check.found(what + " 0", () -> call.apply(0));
    }

    private static void driverState() {
        Check.says("Returns the state of a driver.");
        DriverHost host = Check.loaded("drivers 3;streak 0;");
        host.replace(1);
        host.kill(2);
        for (int driver = 0; driver < 3; driver++) {
            int asked = driver;
            Check.due("driver " + driver, driver, () -> host.driverState(asked));
        }
        noDriver(host, "driverState", host::driverState);
    }

    private static void downUntil() {
        Check.says("Returns the clock at which the down time of a driver ends; NONE if it is not down.");
        DriverHost host = Check.loaded("drivers 3;streak 1;delay 5 9;calm 1000;");
        Check.due("running", -1, () -> host.downUntil(0));
        host.run(2);
        host.kill(1);
        Check.due("down", 8, () -> host.downUntil(1));
        host.run(6);
        Check.due("at its end", 8, () -> host.downUntil(1));
        host.run(1);
        Check.due("restarted", -1, () -> host.downUntil(1));
        host.replace(1);
        Check.due("replaced", 10, () -> host.downUntil(1));
        host.run(2);
        Check.due("restarted", -1, () -> host.downUntil(1));
        host.kill(1);
        Check.due("dead", -1, () -> host.downUntil(1));
        noDriver(host, "downUntil", host::downUntil);
    }

    private static void streak() {
        Check.says("Returns the crash streak of a driver.");
        DriverHost host = Check.loaded("drivers 3;streak 1;delay 1 1;calm 2;");
        Check.due("none", 0, () -> host.streak(2));
        host.kill(2);
        Check.due("one", 1, () -> host.streak(2));
        host.run(3);
        host.kill(2);
        Check.due("two, and dead", 2, () -> host.streak(2));
        Check.due("another driver", 0, () -> host.streak(1));
        noDriver(host, "streak", host::streak);
    }

    private static void registersVariablesAndSaved() {
        DriverHost host = Check.loaded("drivers 3;command a pure time 1 set 0=arg set 7=arg-1 keep 0=arg keep 3=arg-1;"
                + "every 2;");
        host.submit(2, 0, 65535, 0, 0);
        host.submit(2, 0, 0, 0, 0);
        host.run(1);
        Check.says("Returns a register.");
        Check.due("register 0", 65535, () -> host.register(2, 0));
        Check.due("register 7", 65534, () -> host.register(2, 7));
        Check.says("Returns a variable.");
        Check.due("variable 0", 65535, () -> host.variable(2, 0));
        Check.due("variable 3", 65534, () -> host.variable(2, 3));
        Check.says("Returns a number of the snapshot of a driver.");
        Check.due("saved 0", 0, () -> host.saved(2, 0));
        host.run(1);
        Check.due("saved 0", 0, () -> host.saved(2, 0));
        Check.due("saved 3", 65535, () -> host.saved(2, 3));
        host.kill(2);
        Check.due("saved 3 while it is down", 65535, () -> host.saved(2, 3));
        Check.says("Throws `NoSuchElementException` if there is no such driver or register");
        for (int wrong : new int[] {-1, 8, 9, 12, Check.LEAST, Check.GREATEST}) {
            Check.missing("register " + wrong, () -> host.register(0, wrong));
        }
        noDriver(host, "register", driver -> host.register(driver, 7));
        Check.says("Throws `NoSuchElementException` if there is no such driver or variable");
        for (int wrong : new int[] {-1, 4, 5, 8, Check.LEAST, Check.GREATEST}) {
            Check.missing("variable " + wrong, () -> host.variable(0, wrong));
            Check.missing("saved " + wrong, () -> host.saved(0, wrong));
        }
        noDriver(host, "variable", driver -> host.variable(driver, 3));
        noDriver(host, "saved", driver -> host.saved(driver, 3));
    }

    private static void logSizeAndLogged() {
        Check.says("Returns the number of requests in the log of a driver.");
        DriverHost host = Check.loaded("drivers 3;command a pure time 1;every 3;");
        for (int n = 0; n < 7; n++) {
            host.submit(2, 0, 0, n % 2, 0);
        }
        int[] sizes = {0, 1, 2, 0, 1, 2, 0, 1};
        for (int n = 0; n < sizes.length; n++) {
            Check.due("logSize after " + n, sizes[n], () -> host.logSize(2));
            host.run(1);
        }
        Check.due("the other driver", 0, () -> host.logSize(1));
        noDriver(host, "logSize", host::logSize);
        Check.says("Returns the request at an index of the log of a driver, from 0; NONE if there are not so many.");
        for (int n = 0; n < 6; n++) {
            host.undo();
        }
        Check.due("logSize", 2, () -> host.logSize(2));
        Check.due("logged 0", 1, () -> host.logged(2, 0));
        Check.due("logged 1", 3, () -> host.logged(2, 1));
        for (int behind : new int[] {2, 3, 19, 20, 21, 100, Check.GREATEST}) {
            Check.due("logged " + behind, -1, () -> host.logged(2, behind));
        }
        Check.due("logged of an empty log", -1, () -> host.logged(1, 0));
        Check.says("Throws `NoSuchElementException` if there is no such driver or index is negative");
        Check.missing("logged -1", () -> host.logged(2, -1));
        Check.missing("logged -1 of an empty log", () -> host.logged(1, -1));
        Check.missing("logged of the least int", () -> host.logged(2, Check.LEAST));
        noDriver(host, "logged", driver -> host.logged(driver, 0));
        Check.missing("no driver and a negative index", () -> host.logged(3, -1));
    }

    private static void loggedAtTheSnapshotInterval() {
        DriverHost host = Check.loaded("drivers 1;command a pure time 1;every 20;");
        for (int n = 0; n < 20; n++) {
            host.submit(0, 0, 0, 0, 0);
        }
        host.run(19);
        Check.says("Returns the request at an index of the log of a driver, from 0; NONE if there are not so many.");
        Check.due("logSize", 19, () -> host.logSize(0));
        Check.due("the first", 0, () -> host.logged(0, 0));
        Check.due("the last", 18, () -> host.logged(0, 18));
        Check.due("behind the last", -1, () -> host.logged(0, 19));
        host.run(1);
        Check.due("none any more", -1, () -> host.logged(0, 0));
        Check.due("none any more", -1, () -> host.logged(0, 19));
    }

    private static void inFlight() {
        Check.says("Returns the request in flight of a driver; NONE if there is none.");
        DriverHost host = Check.loaded("drivers 3;command a once time 2;delay 1 1;");
        host.submit(2, 0, 0, 0, 0);
        host.submit(2, 0, 0, 0, 0);
        Check.due("none before a tick", -1, () -> host.inFlight(2));
        host.run(1);
        Check.due("the first", 0, () -> host.inFlight(2));
        host.run(1);
        Check.due("none after its completion", -1, () -> host.inFlight(2));
        host.run(1);
        host.kill(2);
        Check.due("the second, while its driver is down", 1, () -> host.inFlight(2));
        host.run(2);
        Check.due("until it restarts", 1, () -> host.inFlight(2));
        host.run(1);
        Check.due("none after its failure", -1, () -> host.inFlight(2));
        noDriver(host, "inFlight", host::inFlight);
    }

    private static void nextRequest() {
        Check.says("Returns the next request of a driver (section 3); NONE if there is none.");
        DriverHost host = Check.loaded("drivers 3;command a again time 2;streak 0;");
        Check.due("none", -1, () -> host.nextRequest(2));
        host.submit(2, 0, 0, 1, 0);
        Check.due("the only one", 0, () -> host.nextRequest(2));
        host.submit(2, 0, 0, 1, 0);
        Check.due("the lowest number", 0, () -> host.nextRequest(2));
        host.submit(2, 0, 0, 2, 0);
        Check.due("the greatest priority", 2, () -> host.nextRequest(2));
        host.run(1);
        Check.due("without the one in flight", 0, () -> host.nextRequest(2));
        host.cancel(0);
        Check.due("without a cancelled one", 1, () -> host.nextRequest(2));
        host.kill(2);
        Check.due("none at a dead driver", -1, () -> host.nextRequest(2));
        noDriver(host, "nextRequest", host::nextRequest);
    }

    private static void queued() {
        Check.says("Returns the number of queued requests of a driver.");
        DriverHost host = Check.loaded("drivers 3;command a again time 2;streak 0;");
        for (int n = 0; n < 100; n++) {
            int want = n;
            Check.due("queued", want, () -> host.queued(2));
            host.submit(2, 0, 0, 0, 0);
        }
        Check.due("all", 100, () -> host.queued(2));
        host.run(1);
        Check.due("one in flight", 99, () -> host.queued(2));
        host.cancel(50);
        Check.due("one cancelled", 98, () -> host.queued(2));
        host.kill(2);
        Check.due("none at a dead driver", 0, () -> host.queued(2));
        Check.due("another driver", 0, () -> host.queued(1));
        noDriver(host, "queued", host::queued);
    }

    private static void request() {
        Check.says("Returns one property of a request.");
        DriverHost host = Check.loaded("drivers 4;command p pure time 1;command a again time 3 result arg*2;"
                + "delay 1 1;");
        host.run(6);
        host.submit(3, 1, -7, 2, 99);
        host.plan(0, 2, 2);
        int[] queued = {3, 1, -7, 2, 99, 6, 0, 0, 0, 0, 0, 0, 2, 2, -1};
        int[] flying = {3, 1, -7, 2, 99, 6, 1, 0, 0, 0, 0, 2, 2, 2, -1};
        int[] crashed = {3, 1, -7, 2, 99, 6, 1, 0, 0, 1, 1, 0, 2, 1, -1};
        int[] done = {3, 1, -7, 2, 99, 6, 2, 0, -14, 3, 2, 0, 2, 0, 16};
        properties(host, "queued", queued);
        host.run(1);
        properties(host, "in flight", flying);
        host.run(2);
        properties(host, "crashed", crashed);
        host.run(20);
        properties(host, "completed", done);
        Check.says("Throws `NoSuchElementException` if there is no such request or what is out of range");
        for (int wrong : new int[] {-1, 15, 16, Check.LEAST, Check.GREATEST}) {
            Check.missing("property " + wrong, () -> host.request(0, wrong));
        }
        for (int wrong : new int[] {-1, 1, 99, 100, Check.LEAST, Check.GREATEST}) {
            Check.missing("request " + wrong, () -> host.request(wrong, 0));
            Check.missing("request " + wrong + " with a wrong property", () -> host.request(wrong, 15));
        }
    }

    private static void properties(DriverHost host, String when, int[] properties) {
        for (int what = 0; what < properties.length; what++) {
            int asked = what;
            Check.due("property " + what + " when it is " + when, properties[what], () -> host.request(0, asked));
        }
    }

    private static void requestRemainingTime() {
        Check.says("- `what`: 0 driver, 1 command, 2 argument, 3 priority, 4 time limit, 5 clock of its acceptance, 6"
                + " state, 7 failure (0 if it has not failed), 8 result (0 if it is not completed), 9 executions, 10"
                + " crashes, 11 remaining time (0 if it is not in flight at a running driver), 12 point of its plan, 13"
                + " times of its plan, 14 the clock at which it was completed or failed (NONE if it was not)");
        DriverHost host = Check.loaded("drivers 1;command a again time 50;delay 1 1;");
        host.submit(0, 0, 0, 0, 0);
        Check.due("queued", 0, () -> host.request(0, 11));
        host.run(1);
        Check.due("after its first tick", 49, () -> host.request(0, 11));
        host.run(48);
        Check.due("before its last tick", 1, () -> host.request(0, 11));
        host.kill(0);
        Check.due("in flight at a driver that is down", 0, () -> host.request(0, 11));
        host.run(2);
        Check.due("in flight at a driver that is down", 0, () -> host.request(0, 11));
        host.run(1);
        Check.due("begun again", 49, () -> host.request(0, 11));
        host.run(49);
        Check.due("completed", 0, () -> host.request(0, 11));
    }

    private static void requestFailureAndResult() {
        DriverHost host = Check.loaded("drivers 1;command a again time 1 result arg;poison 1;");
        host.submit(0, 0, 6, 0, 0);
        host.submit(0, 0, 7, 0, 0);
        host.plan(1, 2, 1);
        Check.due("queued", 0, () -> host.request(0, 7) + host.request(0, 8));
        host.run(2);
        Check.due("no failure of a completed one", 0, () -> host.request(0, 7));
        Check.due("the result of a completed one", 6, () -> host.request(0, 8));
        Check.due("the failure of a failed one", 3, () -> host.request(1, 7));
        Check.due("no result of a failed one, though its effect was done", 10,
                () -> host.request(1, 8) + host.request(1, 9) * 10);
    }

    private static void requestEnd() {
        DriverHost host = Check.loaded("drivers 2;command a again time 1;streak 0;");
        host.submit(0, 0, 0, 0, 0);
        host.submit(0, 0, 0, 0, 0);
        host.submit(1, 0, 0, 0, 0);
        host.run(1);
        Check.due("completed in the first tick", 0, () -> host.request(0, 14));
        Check.due("still queued", -1, () -> host.request(1, 14));
        host.cancel(1);
        Check.due("cancelled", 1, () -> host.request(1, 14));
        host.submit(1, 0, 0, 0, 0);
        host.kill(1);
        Check.due("lost with its driver", 1, () -> host.request(3, 14));
        host.run(100);
        Check.due("it stays", 1, () -> host.request(3, 14));
    }

    private static void recordCountAndRecord() {
        Check.says("Returns the number of kept records.");
        DriverHost host = Check.loaded("drivers 2;command a pure time 1;");
        Check.due("none", 0, host::recordCount);
        Check.missing("record 0 of none", () -> host.record(0, 0));
        host.run(4);
        host.submit(1, 0, 0, 0, 0);
        Check.due("one", 1, host::recordCount);
        Check.says("- `what`: 0 clock, 1 event, 2 driver, 3 request (NONE if there is none)");
        int[] first = {4, 0, 1, 0};
        for (int what = 0; what < 4; what++) {
            int asked = what;
            Check.due("property " + what, first[what], () -> host.record(0, asked));
        }
        host.takeSnapshot(0);
        int[] second = {4, 6, 0, -1};
        for (int what = 0; what < 4; what++) {
            int asked = what;
            Check.due("property " + what, second[what], () -> host.record(1, asked));
        }
        Check.says("Throws `NoSuchElementException` if there is no such record or what is out of range");
        for (int wrong : new int[] {-1, 2, 199, 200, Check.LEAST, Check.GREATEST}) {
            Check.missing("record " + wrong, () -> host.record(wrong, 0));
        }
        for (int wrong : new int[] {-1, 4, Check.LEAST, Check.GREATEST}) {
            Check.missing("property " + wrong, () -> host.record(0, wrong));
            Check.missing("property " + wrong + " of no record", () -> host.record(2, wrong));
        }
        for (int n = 0; n < 300; n++) {
            host.takeSnapshot(n % 2);
        }
        Check.says("- `record`: its index among the kept records, from 0 for the oldest one");
        Check.due("recordCount", 200, host::recordCount);
        Check.due("the oldest", 0, () -> host.record(0, 2));
        Check.due("the newest", 1, () -> host.record(199, 2));
        Check.missing("behind the newest", () -> host.record(200, 0));
    }

    private static void total() {
        Check.says("Returns a total over all drivers since the text was loaded.");
        DriverHost host = Check.loaded("drivers 4;command a pure time 1;");
        for (int what = 0; what < 9; what++) {
            int asked = what;
            Check.due("total " + what + " at first", 0, () -> host.total(asked));
        }
        for (int n = 0; n < 300; n++) {
            host.takeSnapshot(n % 4);
        }
        host.submit(3, 0, 0, 0, 0);
        host.submit(2, 0, 0, 0, 0);
        host.run(1);
        Check.due("more than are kept", 300, () -> host.total(6));
        Check.due("accepted", 2, () -> host.total(0));
        Check.due("begun", 2, () -> host.total(1));
        Check.due("completed", 2, () -> host.total(2));
        Check.says("Returns the total; NONE if what is out of range.");
        for (int wrong : new int[] {-1, 9, 10, Check.LEAST, Check.GREATEST}) {
            Check.due("total " + wrong, -1, () -> host.total(wrong));
        }
        Check.says("- `what`: the number of events of this kind, 0 to 8 (section 6)");
        Check.due("the first kind", 2, () -> host.total(0));
        Check.due("the last kind", 0, () -> host.total(8));
        Check.load(host, "drivers 1;");
        Check.due("a new text", 0, () -> host.total(6));
    }

    private static void availability() {
        Check.says("Returns the share of ticks at whose end a driver was running, in all ticks that passed; 1 if none"
                + " passed.");
        DriverHost host = Check.loaded("drivers 3;command a once time 1;delay 1 1;handover 1;streak 1;");
        Check.due("no tick", 1.0, () -> host.availability(1));
        host.kill(1);
        host.run(0);
        Check.due("no tick, though it is down", 1.0, () -> host.availability(1));
        host.run(1);
        Check.due("down at the end of one", 0.0, () -> host.availability(1));
        Check.due("another driver", 1.0, () -> host.availability(0));
        host.run(2);
        Check.due("the tick of the restart counts", 1.0 / 3, () -> host.availability(1));
        host.submit(1, 0, 0, 0, 0);
        host.plan(0, 1, 1);
        host.run(1);
        Check.due("dead at the end of the fourth", 1.0 / 4, () -> host.availability(1));
        host.run(996);
        Check.due("one of a thousand", 1.0 / 1000, () -> host.availability(1));
        host.run(1000);
        Check.due("one of two thousand", 1.0 / 2000, () -> host.availability(1));
        host.replace(2);
        host.run(1);
        Check.due("a replaced one", 2000.0 / 2001, () -> host.availability(2));
        host.undo();
        Check.due("undone", 1.0, () -> host.availability(2));
        noDriver(host, "availability", host::availability);
    }

    private static void meanTime() {
        Check.says("Returns the mean time from acceptance to completion of all completed requests of a driver; 0 if"
                + " there are none.");
        DriverHost host = Check.loaded("drivers 3;command a once time 1;command c check 1=1 time 5;delay 4 4;");
        Check.due("none", 0f, () -> host.meanTime(1));
        host.submit(1, 0, 0, 0, 0);
        host.cancel(0);
        Check.due("a failed one does not count", 0f, () -> host.meanTime(1));
        host.submit(1, 0, 0, 0, 0);
        host.run(1);
        Check.due("completed in the tick of its acceptance", 0f, () -> host.meanTime(1));
        host.submit(1, 1, 0, 0, 0);
        host.run(1);
        Check.due("one in flight does not count", 0f, () -> host.meanTime(1));
        host.run(4);
        Check.due("0 and 4", 2f, () -> host.meanTime(1));
        host.submit(1, 1, 0, 0, 0);
        host.plan(3, 2, 1);
        host.run(20);
        Check.due("0, 4, and 9 at a restart", 13f / 3, () -> host.meanTime(1));
        Check.due("another driver", 0f, () -> host.meanTime(0));
        host.undo();
        Check.due("undone", 2f, () -> host.meanTime(1));
        noDriver(host, "meanTime", host::meanTime);
    }

    private static void meanTimeIsAFloat() {
        Check.says("Returns the mean time from acceptance to completion of all completed requests of a driver; 0 if"
                + " there are none.");
        DriverHost host = Check.loaded("drivers 1;command a pure time 1;");
        int sum = 0;
        for (int n = 1; n <= 60; n++) {
            host.submit(0, 0, 0, 0, 0);
            if (n % 7 == 0) {
                host.replace(0);
                host.run(2);
                sum++;
            } else {
                host.run(1);
            }
            int times = sum;
            int count = n;
            Check.due("mean of " + n, (float) times / count, () -> host.meanTime(0));
        }
    }
}
