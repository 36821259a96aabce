import java.util.function.IntFunction;

/** The promises 1 to 18, sentence by sentence: the text, and the operations. */
public final class Promises1To18Test {
    private static final String NONE = "throws.NoSuchElementException";
    private static final String REFUSED = "throws.IllegalArgumentException";
    private static final int[] FAR = {Check.LEAST, Check.GREATEST};

    private Promises1To18Test() {
    }

    public static void main(String[] args) {
        newObject();
        feed();
        feedAtTheEnd();
        load();
        loadWithoutAnError();
        loadWithAnError();
        loadLength();
        errorPosition();
        counts();
        classAndTime();
        submit();
        submitInItsOrder();
        cancel();
        plan();
        kill();
        replace();
        takeSnapshot();
        poke();
        run();
        runAtTheLastClock();
        Check.close("Promises1To18Test");
    }

    private static void newObject() {
        Check.says("Creates a host with one driver and without commands, with the values that hold without clauses.");
        DriverHost host = new DriverHost();
        Check.due("driverCount", 1, host::driverCount);
        Check.due("commandCount", 0, host::commandCount);
        Check.due("requestCount", 0, host::requestCount);
        Check.due("clock", 0, host::clock);
        Check.due("recordCount", 0, host::recordCount);
        Check.due("undoCount", 0, host::undoCount);
        Check.due("errorPosition", -1, host::errorPosition);
        Check.due("the same as a text without clauses", Check.all(Check.loaded("drivers 1;")), () -> Check.all(host));
        Check.missing("driver 1", () -> host.driverState(1));
        Check.missing("command 0", () -> host.classOf(0));
        for (int delay : new int[] {2, 4, 8, 16, 32}) {
            int until = host.clock() + 1 + delay;
            Check.due("kill", 1, () -> host.kill(0));
            Check.due("delay", until, () -> host.downUntil(0));
            host.run(delay + 2);
        }
        host.run(18);
        Check.due("one tick before the calm time", 5, () -> host.streak(0));
        host.run(1);
        Check.due("the calm time", 0, () -> host.streak(0));
        Check.due("the handover time", host.clock() + 1, () -> host.replace(0));
        DriverHost dead = new DriverHost();
        for (int n = 0; n < 5; n++) {
            dead.kill(0);
            dead.run(dead.downUntil(0) + 1 - dead.clock());
        }
        Check.due("the streak limit", 2, () -> dead.kill(0));
    }

    private static int word(String four) {
        int value = 0;
        for (int n = 0; n < 4; n++) {
            value = value << 8 | four.charAt(n);
        }
        return value;
    }

    private static void feed() {
        Check.says("Appends 20 bytes to the buffer: the four bytes of each parameter, the most significant byte"
                + " first.");
        DriverHost host = new DriverHost();
        Check.due("feed", 20, () -> host.feed(word("driv"), word("ers "), word("2;ca"), word("lm 3"), word(";\n\n\n")));
        Check.due("feed", 40, () -> host.feed(word("hand"), word("over"), word("   5"), word("0   "), word(";  \0")));
        Check.due("load", 0, () -> host.load(39));
        Check.due("the first bytes", 2, host::driverCount);
        Check.due("the last bytes", 50, () -> host.replace(1));
        for (int position = 0; position < 20; position++) {
            int[] words = {word("    "), word("    "), word("    "), word("    "), word("    ")};
            words[position / 4] |= 0xff << 24 - position % 4 * 8;
            int at = position;
            Check.due("the byte at " + position, at, () -> {
                host.feed(words[0], words[1], words[2], words[3], words[4]);
                host.load(20);
                return host.errorPosition();
            });
        }
    }

    private static void feedAtTheEnd() {
        Check.says("Returns the number of bytes in the buffer; NONE if it would exceed 900, and then nothing is"
                + " appended.");
        DriverHost host = new DriverHost();
        for (int n = 1; n <= 45; n++) {
            int bytes = 20 * n;
            int last = n == 45 ? word("1 ;\n") : word("    ");
            int before = n == 45 ? word("ers ") : word("    ");
            Check.due("feed " + n, bytes, () -> host.feed(word("    "), word("    "),
                    bytes == 900 ? word("driv") : word("    "), before, last));
        }
        for (int n = 0; n < 3; n++) {
            Check.idle(host, "feed behind 900", -1, () -> host.feed(-1, -1, -1, -1, -1));
        }
        Check.refused("load(901)", () -> host.load(901));
        Check.due("nothing was appended, and nothing was changed", 0, () -> host.load(900));
        Check.due("the buffer is empty again", 20, () -> host.feed(0, 0, 0, 0, 0));
    }

    private static void load() {
        Check.says("Reads the first bytes of the buffer as a text, which replaces everything.");
        Check.due("everything", Check.all(Check.loaded("drivers 2;")), () -> {
            DriverHost busy = busy();
            Check.load(busy, "drivers 2;");
            return Check.all(busy);
        });
        Check.says("- `length`: number of bytes to read");
        DriverHost host = new DriverHost();
        Check.feed(host, "drivers 1;calm 7;\u00e9");
        Check.due("ten bytes", 0, () -> host.load(10));
        Check.feed(host, "drivers 1;calm 7;\u00e9");
        Check.due("seventeen bytes", 0, () -> host.load(17));
        Check.feed(host, "drivers 1;calm 7;\u00e9");
        Check.due("eighteen bytes", -11, () -> host.load(18));
        Check.due("errorPosition", 17, host::errorPosition);
        Check.feed(host, "drivers 1;calm 77;");
        Check.due("a number is cut off by the length", -11, () -> host.load(16));
        Check.due("errorPosition", 16, host::errorPosition);
        Check.says("The buffer is empty afterwards, also after an error.");
        Check.feed(host, "drivers 1;calm 7;");
        Check.due("no error", 0, () -> host.load(10));
        Check.refused("nothing is left", () -> host.load(1));
        Check.feed(host, "drivers 5;calm 7;");
        Check.due("an error", -12, () -> host.load(10));
        Check.refused("nothing is left", () -> host.load(1));
        Check.due("feed", 20, () -> host.feed(0, 0, 0, 0, 0));
        Check.due("load(0)", -11, () -> host.load(0));
        Check.due("errorPosition", 0, host::errorPosition);
        Check.due("feed", 20, () -> host.feed(0, 0, 0, 0, 0));
    }

    private static DriverHost busy() {
        DriverHost host = Check.loaded("drivers 4;command a again time 2 set 0=5 keep 0=6;streak 9;delay 9 9;calm 9;"
                + "poison 9;every 1;handover 9;");
        host.submit(3, 0, 0, 0, 0);
        host.submit(3, 0, 0, 0, 0);
        host.run(3);
        host.kill(3);
        host.replace(2);
        host.saveState();
        return host;
    }

    private static void loadWithoutAnError() {
        Check.says("Without an error there are no requests and records, the clock is 0, and the undo history and the"
                + " saved state are discarded.");
        DriverHost host = busy();
        Check.due("load", 1, () -> Check.load(host, "drivers 4;command b once time 3;"));
        Check.due("all is new", Check.all(Check.loaded("drivers 4;command b once time 3;")), () -> Check.all(host));
        Check.due("requestCount", 0, host::requestCount);
        Check.missing("request 0", () -> host.request(0, 0));
        Check.due("recordCount", 0, host::recordCount);
        Check.missing("record 0", () -> host.record(0, 0));
        Check.due("clock", 0, host::clock);
        Check.due("undoCount", 0, host::undoCount);
        Check.idle(host, "undo", -1, host::undo);
        Check.idle(host, "restoreState", false, host::restoreState);
        Check.due("the class of the new command", 2, () -> host.classOf(0));
        Check.due("the first delay without clauses", 3, () -> host.kill(3) * host.downUntil(3));
        Check.due("the handover time without clauses", 1, () -> host.replace(2));
        Check.due("new operations are recorded", 2, host::undoCount);
        Check.due("and undone", 1, host::undo);
    }

    private static void loadWithAnError() {
        Check.says("Returns the number of commands; -10 minus the error code if the text has an error (then only the"
                + " buffer and the error position change).");
        String eight = "drivers 1;";
        for (int n = 0; n <= 8; n++) {
            String text = eight;
            DriverHost host = new DriverHost();
            Check.due("load", n, () -> Check.load(host, text));
            eight += "command " + (char) ('a' + n) + " pure time 1;";
        }
        String[] wrong = {"drivers 1", "drivers 2;calm 0;", eight, "drivers 3;command a pure time 1;command a"};
        int[] positions = {9, 15, 186, 40};
        for (int n = 0; n < wrong.length; n++) {
            DriverHost host = busy();
            String before = Check.all(host);
            String text = wrong[n];
            Check.due("load", -11 - n, () -> Check.load(host, text));
            Check.due("errorPosition", positions[n], host::errorPosition);
            Check.due("all is as before", before, () -> Check.all(host));
            Check.due("undoCount", 5, host::undoCount);
            Check.due("undo", 4, host::undo);
            Check.due("restoreState", true, host::restoreState);
            Check.due("all is as before", before, () -> Check.all(host));
            host.run(20);
            Check.due("the delay of before", 13, () -> restartOf(host, 3));
        }
    }

    private static int restartOf(DriverHost host, int driver) {
        for (int n = 0; n < host.recordCount(); n++) {
            if (host.record(n, 1) == 5 && host.record(n, 2) == driver) {
                return host.record(n, 0);
            }
        }
        return -1;
    }

    private static void loadLength() {
        Check.says("Throws `IllegalArgumentException` if length is negative or greater than the number of bytes in the"
                + " buffer (nothing changes)");
        DriverHost host = new DriverHost();
        Check.idle(host, "load(1) of none", REFUSED, () -> host.load(1));
        Check.feed(host, "drivers 2;          drivers 3;          ");
        for (int length : new int[] {-1, 41, Check.LEAST, Check.GREATEST}) {
            Check.idle(host, "load(" + length + ") of 40", REFUSED, () -> host.load(length));
        }
        Check.due("load(40)", -11, () -> host.load(40));
        Check.due("errorPosition", 20, host::errorPosition);
        Check.idle(host, "load(1) of none", REFUSED, () -> host.load(1));
        Check.due("the error position stays", 20, host::errorPosition);
    }

    private static void errorPosition() {
        Check.says("Returns the position of the error of the most recent call of load or query that read the buffer;"
                + " NONE if that call had no error, or there was no such call.");
        DriverHost host = new DriverHost();
        Check.due("no such call", -1, host::errorPosition);
        Check.refused("load that reads nothing", () -> host.load(1));
        Check.due("no such call", -1, host::errorPosition);
        Check.due("load", -12, () -> Check.load(host, "drivers 5;"));
        Check.due("of load", 8, host::errorPosition);
        Check.refused("query that reads nothing", () -> host.query(1));
        Check.due("still of load", 8, host::errorPosition);
        Check.due("query", 0, () -> Check.query(host, "many 1=1"));
        Check.due("no error of query", -1, host::errorPosition);
        Check.due("query", -1000000001, () -> Check.query(host, "many 1"));
        Check.due("of query", 6, host::errorPosition);
        Check.due("query", -1, () -> Check.query(host, "first 1=1"));
        Check.due("NONE is no error", -1, host::errorPosition);
        Check.due("load", -11, () -> host.load(0));
        Check.due("of an empty text", 0, host::errorPosition);
        Check.due("load", 0, () -> Check.load(host, "drivers 4;"));
        Check.due("no error of load", -1, host::errorPosition);
        Check.due("query", -1000000001, () -> host.query(0));
        host.saveState();
        host.run(1);
        host.undo();
        host.restoreState();
        Check.due("other calls leave it", 0, host::errorPosition);
    }

    private static void counts() {
        Check.says("Returns the number of drivers.");
        for (int drivers = 1; drivers <= 4; drivers++) {
            DriverHost host = Check.loaded("drivers " + drivers + ";");
            Check.due("driverCount", drivers, host::driverCount);
        }
        Check.says("Returns the number of commands.");
        Check.due("commandCount", 2,
                Check.loaded("drivers 1;command a pure time 1;command b pure time 1;")::commandCount);
        DriverHost host = Check.loaded("drivers 1;command a pure time 1;");
        Check.says("Returns the number of requests.");
        for (int n = 0; n < 3; n++) {
            int want = n;
            Check.due("requestCount", want, host::requestCount);
            host.submit(0, 0, 0, 0, 0);
        }
        host.cancel(0);
        host.run(9);
        Check.due("completed and failed ones count", 3, host::requestCount);
        Check.says("Returns the clock.");
        Check.due("clock", 9, host::clock);
        host.undo();
        Check.due("clock", 0, host::clock);
    }

    private static void classAndTime() {
        DriverHost host = Check.loaded("drivers 1;command a check 1=1 time 1;command b once time 50;"
                + "command c again time 2;command d pure time 49;");
        int[] times = {1, 50, 2, 49};
        for (int n = 0; n < 4; n++) {
            int command = n;
            Check.says("Returns the class of a command.");
            Check.due("classOf " + n, 3 - n, () -> host.classOf(command));
            Check.says("Returns the time of a command.");
            Check.due("timeOf " + n, times[n], () -> host.timeOf(command));
        }
        Check.says("Throws `NoSuchElementException` if there is no such command");
        for (int command : new int[] {-1, 4, 8, Check.LEAST, Check.GREATEST}) {
            Check.missing("classOf " + command, () -> host.classOf(command));
            Check.missing("timeOf " + command, () -> host.timeOf(command));
        }
    }

    private static void submit() {
        Check.says("Operation: accepts a request.");
        DriverHost host = Check.loaded("drivers 2;command a pure time 1;command b pure time 1;");
        host.run(3);
        Check.due("submit", 0, () -> host.submit(1, 1, Check.LEAST, 3, 100000));
        int[] properties = {1, 1, Check.LEAST, 3, 100000, 3, 0, 0, 0, 0, 0, 0, 0, 0, -1};
        for (int what = 0; what < properties.length; what++) {
            int asked = what;
            Check.due("property " + what, properties[what], () -> host.request(0, asked));
        }
        Check.due("its record", "3 0 1 0", () -> host.record(0, 0) + " " + host.record(0, 1) + " " + host.record(0, 2)
                + " " + host.record(0, 3));
        Check.says("- `priority`: 0 to 3");
        Check.due("0", 1, () -> host.submit(0, 0, 0, 0, 0));
        Check.due("3", 2, () -> host.submit(0, 0, 0, 3, 0));
        Check.idle(host, "-1", REFUSED, () -> host.submit(0, 0, 0, -1, 0));
        Check.idle(host, "4", REFUSED, () -> host.submit(0, 0, 0, 4, 0));
        Check.says("- `limit`: the time limit, 0 to 100000");
        Check.due("0", 3, () -> host.submit(0, 0, 0, 0, 0));
        Check.due("100000", 4, () -> host.submit(0, 0, 0, 0, 100000));
        Check.idle(host, "-1", REFUSED, () -> host.submit(0, 0, 0, 0, -1));
        Check.idle(host, "100001", REFUSED, () -> host.submit(0, 0, 0, 0, 100001));
        Check.says("- `argument`: any int");
        Check.due("the least", 5, () -> host.submit(0, 0, Check.LEAST, 0, 0));
        Check.due("the greatest", 6, () -> host.submit(0, 0, Check.GREATEST, 0, 0));
        for (int far : FAR) {
            Check.idle(host, "priority " + far, REFUSED, () -> host.submit(0, 0, 0, far, 0));
            Check.idle(host, "limit " + far, REFUSED, () -> host.submit(0, 0, 0, 0, far));
        }
    }

    private static void submitInItsOrder() {
        Check.says("Returns the number of the request; -2 if the driver is dead; -3 if there are 100 requests (checked"
                + " in this order).");
        DriverHost host = Check.loaded("drivers 3;command a pure time 1;streak 0;");
        for (int n = 0; n < 99; n++) {
            host.submit(n % 2, 0, 0, 0, 0);
        }
        host.kill(1);
        host.replace(2);
        Check.idle(host, "a dead driver with 99 requests", -2, () -> host.submit(1, 0, 0, 0, 0));
        Check.due("the last one, to a driver that is down", 99, () -> host.submit(2, 0, 0, 0, 0));
        Check.idle(host, "a running driver with 100 requests", -3, () -> host.submit(0, 0, 0, 0, 0));
        Check.idle(host, "one that is down with 100 requests", -3, () -> host.submit(2, 0, 0, 0, 0));
        Check.idle(host, "a dead driver with 100 requests", -2, () -> host.submit(1, 0, 0, 0, 0));
        Check.says("Throws `NoSuchElementException` if there is no such driver or command (checked first)");
        for (int wrong : new int[] {-1, 3, Check.LEAST, Check.GREATEST}) {
            Check.idle(host, "driver " + wrong, NONE, () -> host.submit(wrong, 0, 0, 0, 0));
            Check.idle(host, "driver " + wrong, NONE, () -> host.submit(wrong, 0, 0, 4, -1));
        }
        for (int wrong : new int[] {-1, 1, Check.LEAST, Check.GREATEST}) {
            Check.idle(host, "command " + wrong, NONE, () -> host.submit(0, wrong, 0, 0, 0));
            Check.idle(host, "command " + wrong + " at a dead driver", NONE, () -> host.submit(1, wrong, 0, 4, -1));
        }
        Check.says("Throws `IllegalArgumentException` if priority or limit is out of range");
        Check.idle(host, "priority at a dead driver", REFUSED, () -> host.submit(1, 0, 0, 4, 0));
        Check.idle(host, "limit at a dead driver", REFUSED, () -> host.submit(1, 0, 0, 0, 100001));
        Check.idle(host, "priority with 100 requests", REFUSED, () -> host.submit(0, 0, 0, -1, 0));
        Check.idle(host, "limit with 100 requests", REFUSED, () -> host.submit(0, 0, 0, 0, -1));
    }

    private static void cancel() {
        Check.says("Operation: cancels a queued request; it fails with 4.");
        DriverHost host = Check.loaded("drivers 1;command a again time 2;");
        for (int n = 0; n < 3; n++) {
            host.submit(0, 0, 0, 0, 0);
        }
        host.run(1);
        Check.due("queued", 1, () -> host.cancel(2));
        Check.due("failure", 4, () -> host.request(2, 7));
        Check.due("its clock", 1, () -> host.request(2, 14));
        Check.due("the next one", 1, () -> host.nextRequest(0));
        Check.says("Returns the clock; -2 if it is not queued.");
        host.submit(0, 0, 0, 0, 0);
        Check.due("queued", 1, () -> host.cancel(3));
        Check.idle(host, "failed", -2, () -> host.cancel(2));
        Check.idle(host, "in flight", -2, () -> host.cancel(0));
        host.run(1);
        Check.idle(host, "completed", -2, () -> host.cancel(0));
        host.run(1);
        host.kill(0);
        Check.idle(host, "in flight at a driver that is down", -2, () -> host.cancel(1));
        Check.says("Throws `NoSuchElementException` if there is no such request");
        for (int wrong : new int[] {-1, 4, 100, Check.LEAST, Check.GREATEST}) {
            Check.idle(host, "cancel " + wrong, NONE, () -> host.cancel(wrong));
        }
    }

    private static void plan() {
        Check.says("Operation: sets the plan of a request.");
        DriverHost host = Check.loaded("drivers 1;command a again time 2;");
        host.submit(0, 0, 0, 0, 0);
        host.submit(0, 0, 0, 0, 0);
        int previous = 0;
        for (int point : new int[] {2, 1, 0, 2, 2}) {
            for (int times : new int[] {0, 1, 20}) {
                int before = previous;
                Check.due("the previous point", before, () -> host.plan(0, point, times));
                Check.due("the point", point, () -> host.request(0, 12));
                Check.due("the times", times, () -> host.request(0, 13));
                previous = point;
            }
        }
        Check.says("- `point`: 0 to 2");
        for (int wrong : new int[] {-1, 3, Check.LEAST, Check.GREATEST}) {
            Check.idle(host, "point " + wrong, REFUSED, () -> host.plan(0, wrong, 1));
        }
        Check.says("- `times`: 0 to 20");
        for (int wrong : new int[] {-1, 21, Check.LEAST, Check.GREATEST}) {
            Check.idle(host, "times " + wrong, REFUSED, () -> host.plan(0, 1, wrong));
        }
        Check.says("Returns the previous point; -2 if the request is completed or failed.");
        host.run(1);
        Check.due("in flight", 2, () -> host.plan(0, 0, 1));
        host.kill(0);
        Check.due("in flight at a driver that is down", 0, () -> host.plan(0, 1, 0));
        host.cancel(1);
        Check.idle(host, "failed", -2, () -> host.plan(1, 0, 0));
        host.run(9);
        Check.due("completed", 2, () -> host.request(0, 6));
        Check.idle(host, "completed", -2, () -> host.plan(0, 0, 0));
        Check.says("Throws `NoSuchElementException` if there is no such request (checked first)");
        for (int wrong : new int[] {-1, 2, Check.LEAST, Check.GREATEST}) {
            Check.idle(host, "plan of " + wrong, NONE, () -> host.plan(wrong, 0, 0));
            Check.idle(host, "plan of " + wrong + " with all else wrong", NONE, () -> host.plan(wrong, 3, 21));
        }
        Check.says("Throws `IllegalArgumentException` if point or times is out of range");
        Check.idle(host, "point of a completed one", REFUSED, () -> host.plan(0, 3, 0));
        Check.idle(host, "times of a failed one", REFUSED, () -> host.plan(1, 0, 21));
    }

    private static void noDriver(DriverHost host, int count, String what, IntFunction<Object> call) {
        Check.says("Throws `NoSuchElementException` if there is no such driver");
        for (int wrong : new int[] {-1, count, 4, Check.LEAST, Check.GREATEST}) {
            Check.idle(host, what + " " + wrong, NONE, () -> call.apply(wrong));
        }
    }

    private static void kill() {
        Check.says("Operation: lets a running driver crash now.");
        DriverHost host = Check.loaded("drivers 2;command a again time 9;streak 1;delay 3 3;");
        host.submit(1, 0, 0, 0, 0);
        host.run(2);
        Check.due("kill", 1, () -> host.kill(1));
        Check.due("down until", 2 + 1 + 3, () -> host.downUntil(1));
        Check.due("the crash of the request", 1, () -> host.request(0, 10));
        Check.says("Returns the new state of the driver; -2 if it is not running.");
        Check.idle(host, "down", -2, () -> host.kill(1));
        host.run(4);
        Check.idle(host, "down at the end of its down time", -2, () -> host.kill(1));
        host.run(1);
        Check.due("kill", 2, () -> host.kill(1));
        Check.idle(host, "dead", -2, () -> host.kill(1));
        host.replace(0);
        Check.idle(host, "replaced", -2, () -> host.kill(0));
        noDriver(host, 2, "kill", host::kill);
    }

    private static void replace() {
        Check.says("Operation: replaces a running driver without a request in flight.");
        DriverHost host = Check.loaded("drivers 2;command a again time 2;streak 0;handover 50;");
        host.run(5);
        host.submit(1, 0, 0, 0, 0);
        Check.due("with a queued request", 55, () -> host.replace(1));
        Check.due("down until", 55, () -> host.downUntil(1));
        Check.due("a snapshot", 1, () -> host.total(6));
        Check.says("Returns the clock at which its down time ends; -2 if it is not running; -3 if a request is in"
                + " flight (checked in this order).");
        Check.idle(host, "down", -2, () -> host.replace(1));
        host.run(51);
        Check.due("one in flight", 0, () -> host.inFlight(1));
        Check.idle(host, "with a request in flight", -3, () -> host.replace(1));
        host.run(1);
        Check.due("after its completion", 57 + 50, () -> host.replace(1));
        host.kill(0);
        Check.idle(host, "dead", -2, () -> host.replace(0));
        DriverHost both = Check.loaded("drivers 1;command a again time 2;");
        both.submit(0, 0, 0, 0, 0);
        both.run(1);
        both.kill(0);
        Check.due("in flight", 0, () -> both.inFlight(0));
        Check.idle(both, "down with a request in flight", -2, () -> both.replace(0));
        noDriver(host, 2, "replace", host::replace);
    }

    private static void takeSnapshot() {
        Check.says("Operation: takes a snapshot of a running driver.");
        DriverHost host = Check.loaded("drivers 2;command a again time 1 keep 0=var 0+1 keep 3=arg;every 20;streak 1;");
        for (int n = 0; n < 19; n++) {
            host.submit(1, 0, n, 0, 0);
        }
        Check.due("none", 0, () -> host.takeSnapshot(1));
        Check.due("its record", 6, () -> host.record(19, 1));
        host.run(1);
        Check.says("Returns the number of requests that were in its log; -2 if it is not running.");
        Check.due("one", 1, () -> host.takeSnapshot(1));
        Check.due("the log is empty", 0, () -> host.takeSnapshot(1));
        host.run(18);
        Check.due("eighteen", 18, () -> host.logSize(1));
        Check.due("saved", 1, () -> host.saved(1, 0));
        Check.due("eighteen", 18, () -> host.takeSnapshot(1));
        Check.due("saved", 19, () -> host.saved(1, 0));
        Check.due("saved", 18, () -> host.saved(1, 3));
        for (int n = 0; n < 19; n++) {
            host.submit(1, 0, n, 0, 0);
        }
        host.run(100);
        Check.due("nineteen", 19, () -> host.takeSnapshot(1));
        Check.due("records", 5, () -> host.total(6));
        host.kill(1);
        Check.idle(host, "down", -2, () -> host.takeSnapshot(1));
        host.run(4);
        host.kill(1);
        Check.idle(host, "dead", -2, () -> host.takeSnapshot(1));
        host.replace(0);
        Check.idle(host, "replaced", -2, () -> host.takeSnapshot(0));
        noDriver(host, 2, "takeSnapshot", host::takeSnapshot);
    }

    private static void poke() {
        Check.says("Operation: changes a register from outside.");
        DriverHost host = Check.loaded("drivers 2;streak 0;");
        Check.due("poke", 0, () -> host.poke(0, 3, 5));
        Check.due("changed", 5, () -> host.register(0, 3));
        Check.says("- `value`: 0 to 65535");
        int previous = 0;
        for (int value : new int[] {65535, 0, 1, 65534}) {
            int before = previous;
            Check.due("poke of " + value, before, () -> host.poke(1, 7, value));
            Check.due("register", value, () -> host.register(1, 7));
            previous = value;
        }
        for (int wrong : new int[] {-1, 65536, Check.LEAST, Check.GREATEST}) {
            Check.idle(host, "poke of " + wrong, REFUSED, () -> host.poke(1, 7, wrong));
        }
        Check.says("Returns the previous value.");
        Check.due("at first", 0, () -> host.poke(1, 0, 9));
        Check.due("then", 9, () -> host.poke(1, 0, 9));
        host.kill(1);
        Check.due("also of a dead driver", 9, () -> host.poke(1, 0, 8));
        Check.says("Throws `NoSuchElementException` if there is no such driver or register (checked first)");
        for (int wrong : new int[] {-1, 8, 12, Check.LEAST, Check.GREATEST}) {
            Check.idle(host, "register " + wrong, NONE, () -> host.poke(0, wrong, 0));
            Check.idle(host, "register " + wrong + " with a wrong value", NONE, () -> host.poke(0, wrong, 65536));
        }
        for (int wrong : new int[] {-1, 2, Check.LEAST, Check.GREATEST}) {
            Check.idle(host, "driver " + wrong, NONE, () -> host.poke(wrong, 0, 0));
            Check.idle(host, "driver " + wrong + " with all else wrong", NONE, () -> host.poke(wrong, 8, -1));
        }
        Check.says("Throws `IllegalArgumentException` if value is out of range");
        Check.idle(host, "at a dead driver", REFUSED, () -> host.poke(1, 0, -1));
    }

    private static void run() {
        Check.says("Operation: simulates ticks.");
        DriverHost host = Check.loaded("drivers 2;command a again time 1;delay 1 1;command c check 1=1 time 1;");
        Check.due("none", 0, () -> host.run(0));
        Check.due("clock", 0, host::clock);
        Check.says("- `ticks`: 0 to 1000");
        Check.due("a thousand", 0, () -> host.run(1000));
        Check.due("clock", 1000, host::clock);
        for (int wrong : new int[] {-1, 1001, Check.LEAST, Check.GREATEST}) {
            Check.idle(host, "run(" + wrong + ")", REFUSED, () -> host.run(wrong));
        }
        Check.says("Returns the number of requests that were completed in this time; -4 if the clock would exceed"
                + " 1000000.");
        for (int n = 0; n < 7; n++) {
            host.submit(n % 2, 0, 0, 0, n == 6 ? 1 : 0);
        }
        Check.due("no tick", 0, () -> host.run(0));
        Check.due("one tick", 2, () -> host.run(1));
        Check.due("the rest without the one that is too late", 4, () -> host.run(100));
        Check.due("none", 0, () -> host.run(100));
        host.submit(0, 1, 0, 0, 0);
        host.plan(7, 1, 1);
        Check.due("a crash", 0, () -> host.run(1));
        Check.due("one completed at the restart", 1, () -> host.run(2));
        for (int n = 0; n < 92; n++) {
            host.submit(n % 2, 0, 0, 0, 0);
        }
        Check.due("all of the others", 92, () -> host.run(1000));
    }

    private static void runAtTheLastClock() {
        DriverHost host = Check.loaded("drivers 1;command a again time 1;");
        for (int n = 0; n < 999; n++) {
            host.run(1000);
        }
        host.submit(0, 0, 0, 0, 0);
        host.run(1);
        Check.idle(host, "1000001", -4, () -> host.run(1000));
        Check.due("1000000", 0, () -> host.run(999));
        Check.due("clock", 1000000, host::clock);
        Check.idle(host, "1000001", -4, () -> host.run(1));
        Check.due("1000000", 0, () -> host.run(0));
        Check.says("Throws `IllegalArgumentException` if ticks is out of range");
        for (int wrong : new int[] {-1, 1001, Check.LEAST, Check.GREATEST}) {
            Check.idle(host, "run(" + wrong + ") at the last clock", REFUSED, () -> host.run(wrong));
        }
    }
}
