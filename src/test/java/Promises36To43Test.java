/** The promises 36 to 43, sentence by sentence: forecasts, undoing, saving and queries. */
public final class Promises36To43Test {
    private static final String NONE = "throws.NoSuchElementException";
    private static final String REFUSED = "throws.IllegalArgumentException";

    private Promises36To43Test() {
    }

    public static void main(String[] args) {
        forecast();
        forecastEdges();
        forecastAtTheLastClock();
        forecastsAreApart();
        bestDelay();
        bestDelayOnATie();
        bestDelayAtTheLastClock();
        decision();
        decisionWhateverTheCrashes();
        undoCount();
        undo();
        saveAndRestore();
        restoreClearsTheHistory();
        nothingSaved();
        query();
        queryLength();
        Check.close("Promises36To43Test");
    }

    private static void forecast() {
        Check.says("Forecasts on a copy when a request is completed or fails.");
        DriverHost host = Check.loaded("drivers 2;command a again time 3 set 0=1 keep 0=1;command o once time 1;"
                + "delay 1 1;");
        host.submit(0, 0, 0, 0, 0);
        host.submit(0, 0, 0, 0, 2);
        host.submit(1, 1, 0, 0, 0);
        host.plan(2, 1, 1);
        Check.idle(host, "completed", 3, () -> host.forecast(0));
        Check.idle(host, "too late", 3, () -> host.forecast(1));
        Check.idle(host, "unknown outcome", 3, () -> host.forecast(2));
        host.run(2);
        Check.idle(host, "one tick is left", 1, () -> host.forecast(0));
        host.run(1);
        Check.idle(host, "completed now", 0, () -> host.forecast(0));
        Check.idle(host, "failed now", 0, () -> host.forecast(2));
        Check.says("Throws `NoSuchElementException` if there is no such request");
        for (int wrong : new int[] {-1, 3, 100, Check.LEAST, Check.GREATEST}) {
            Check.idle(host, "forecast " + wrong, NONE, () -> host.forecast(wrong));
        }
        Check.found("forecast 2", () -> host.forecast(2));
    }

    private static void forecastEdges() {
        Check.says("Returns the least number of ticks, 0 to 1000, after which it is (0 if it is so now); NONE if there"
                + " is none, or the clock would exceed 1000000 before.");
        DriverHost host = Check.loaded("drivers 1;command a again time 50;command b again time 1;");
        for (int n = 0; n < 20; n++) {
            host.submit(0, 0, 0, 3, 0);
        }
        host.submit(0, 1, 0, 0, 0);
        Check.due("the twentieth is completed in tick 1000", 1000, () -> host.forecast(19));
        Check.idle(host, "the next one in tick 1001", -1, () -> host.forecast(20));
        host.submit(0, 1, 0, 0, 999);
        host.submit(0, 1, 0, 0, 1000);
        Check.due("too late in tick 1000", 1000, () -> host.forecast(21));
        Check.due("too late in tick 1001", -1, () -> host.forecast(22));
        host.run(1);
        Check.due("one tick later", 999, () -> host.forecast(19));
        Check.due("one tick later", 1000, () -> host.forecast(20));
        Check.due("one tick later", 999, () -> host.forecast(21));
        Check.due("one tick later", 1000, () -> host.forecast(22));
        host.run(1000);
        Check.due("over", 0, () -> host.forecast(20) + host.forecast(21));
        DriverHost down = Check.loaded("drivers 1;command a again time 1;delay 100 1000;streak 20;calm 1000;");
        for (int n = 0; n < 4; n++) {
            down.kill(0);
            down.run(1000);
        }
        down.submit(0, 0, 0, 0, 0);
        down.kill(0);
        Check.due("the longest delay is longer than a forecast", -1, () -> down.forecast(0));
        down.run(1);
        Check.due("then 1001 ticks", -1, () -> down.forecast(0));
        down.run(1);
        Check.due("then 1000 ticks", 1000, () -> down.forecast(0));
    }

    private static void forecastAtTheLastClock() {
        DriverHost host = Check.loaded("drivers 1;command a again time 2;");
        for (int n = 0; n < 999; n++) {
            host.run(1000);
        }
        host.run(996);
        for (int n = 0; n < 3; n++) {
            host.submit(0, 0, 0, 0, 0);
        }
        Check.due("at 999998", 2, () -> host.forecast(0));
        Check.due("at 1000000", 4, () -> host.forecast(1));
        Check.idle(host, "at 1000002", -1, () -> host.forecast(2));
        host.run(4);
        Check.due("at 1000000", 0, () -> host.forecast(1));
        Check.idle(host, "behind 1000000", -1, () -> host.forecast(2));
        DriverHost last = Check.loaded("drivers 1;command a again time 1;");
        for (int n = 0; n < 999; n++) {
            last.run(1000);
        }
        last.run(999);
        last.submit(0, 0, 0, 0, 0);
        last.submit(0, 0, 0, 0, 0);
        Check.due("in the last tick", 1, () -> last.forecast(0));
        Check.idle(last, "in the tick behind it", -1, () -> last.forecast(1));
        last.run(1);
        Check.idle(last, "at the last clock", -1, () -> last.forecast(1));
    }

    /** Neither a trial of a first delay nor another text leaves a mark in a later forecast. */
    private static void forecastsAreApart() {
        Check.says("Forecasts on a copy when a request is completed or fails.");
        DriverHost host = Check.loaded("drivers 1;command a again time 1;delay 3 40;");
        host.submit(0, 0, 0, 0, 0);
        host.plan(0, 1, 1);
        Check.due("forecast", 5, () -> host.forecast(0));
        host.bestDelay(200);
        Check.due("forecast after bestDelay", 5, () -> host.forecast(0));
        Check.load(host, "drivers 2;command a again time 9;delay 7 40;");
        host.submit(1, 0, 0, 0, 0);
        host.plan(0, 1, 1);
        Check.due("forecast after load", 9 + 7 + 9, () -> host.forecast(0));
        Check.due("not yet", 0, () -> host.run(24));
        Check.due("as forecast", 1, () -> host.run(1));
    }

    /** With a first delay of at least this one, the second request is too late, and the third is not lost with it. */
    private static DriverHost betterWith(int least, int first, int greatest) {
        DriverHost host = Check.loaded("drivers 1;command a again time 1;streak 1;calm 1000;delay " + first + " "
                + greatest + ";");
        host.submit(0, 0, 0, 3, 0);
        host.plan(0, 1, 1);
        host.submit(0, 0, 0, 2, least + 2);
        host.plan(1, 1, 1);
        host.submit(0, 0, 0, 0, 0);
        return host;
    }

    private static void bestDelay() {
        Check.says("Forecasts on copies the best first delay: each value from 1 to 16 (at most the greatest delay) is"
                + " tried as the first delay.");
        for (int least : new int[] {1, 2, 3, 15, 16}) {
            DriverHost host = betterWith(least, 1, 1000);
            Check.idle(host, "the best is " + least, least, () -> host.bestDelay(100));
            DriverHost other = betterWith(least, 20, 20);
            Check.idle(other, "the best is " + least + ", not 20", least, () -> other.bestDelay(100));
        }
        DriverHost seventeen = betterWith(17, 1, 1000);
        Check.idle(seventeen, "17 is not tried", 1, () -> seventeen.bestDelay(100));
        DriverHost atGreatest = betterWith(9, 1, 9);
        Check.due("the greatest delay is tried", 9, () -> atGreatest.bestDelay(100));
        DriverHost behindGreatest = betterWith(9, 1, 8);
        Check.due("one more than it is not", 1, () -> behindGreatest.bestDelay(100));
        DriverHost one = betterWith(1, 1, 1);
        Check.due("a greatest delay of 1", 1, () -> one.bestDelay(100));
        DriverHost sixteen = betterWith(16, 16, 16);
        Check.due("a greatest delay of 16", 16, () -> sixteen.bestDelay(100));
        DriverHost fifteen = betterWith(16, 15, 15);
        Check.due("a greatest delay of 15", 1, () -> fifteen.bestDelay(100));
        Check.says("- `ticks`: 0 to 200");
        for (int wrong : new int[] {-1, 201, Check.LEAST, Check.GREATEST}) {
            Check.idle(one, "bestDelay(" + wrong + ")", REFUSED, () -> one.bestDelay(wrong));
        }
        Check.due("bestDelay(0)", 1, () -> atGreatest.bestDelay(0));
        Check.due("bestDelay(200)", 9, () -> atGreatest.bestDelay(200));
    }

    private static void bestDelayOnATie() {
        Check.says("Returns the value with which the most requests are completed after these ticks, the smallest one on"
                + " a tie.");
        DriverHost host = Check.loaded("drivers 1;command a again time 1;delay 5 100;calm 1000;");
        Check.due("no requests", 1, () -> host.bestDelay(200));
        host.submit(0, 0, 0, 0, 0);
        host.plan(0, 1, 1);
        host.submit(0, 0, 0, 0, 7);
        Check.due("1 to 5 are as good", 1, () -> host.bestDelay(50));
        DriverHost later = betterWith(4, 1, 1000);
        for (int ticks = 0; ticks <= 12; ticks++) {
            int asked = ticks;
            // With 4 the first request is completed in tick 6 and the third one in tick 7; with 1 the first one in
            // tick 3 and no other.
            Check.due("after " + ticks + " ticks", ticks < 7 ? 1 : 4, () -> later.bestDelay(asked));
        }
    }

    private static void bestDelayAtTheLastClock() {
        Check.says("Throws `IllegalArgumentException` if ticks is out of range or the clock would exceed 1000000");
        DriverHost host = new DriverHost();
        for (int n = 0; n < 999; n++) {
            host.run(1000);
        }
        host.run(799);
        Check.due("1000000 is far", 1, () -> host.bestDelay(200));
        host.run(1);
        Check.due("200 ticks reach it", 1, () -> host.bestDelay(200));
        host.run(1);
        Check.idle(host, "200 ticks exceed it", REFUSED, () -> host.bestDelay(200));
        Check.due("199 ticks reach it", 1, () -> host.bestDelay(199));
        host.run(199);
        Check.idle(host, "one tick exceeds it", REFUSED, () -> host.bestDelay(1));
        Check.due("no tick does not", 1, () -> host.bestDelay(0));
    }

    private static void decision() {
        Check.says("Returns that number; NONE if the request is not in flight.");
        DriverHost host = Check.loaded("drivers 4;command p pure time 5;command a again time 5;command o once time 5;"
                + "command c check reg 0=arg time 5;delay 3 3;");
        for (int n = 0; n < 4; n++) {
            host.submit(n, n, 8, 0, 0);
            int request = n;
            Check.due("queued", -1, () -> host.decision(request));
        }
        host.run(1);
        int[] decisions = {0, 0, 2, 0};
        for (int round = 0; round < 2; round++) {
            for (int n = 0; n < 4; n++) {
                int request = n;
                Check.idle(host, "in flight", decisions[n], () -> host.decision(request));
            }
            host.poke(3, 0, 8);
            Check.idle(host, "in flight, and its condition holds", 1, () -> host.decision(3));
            host.poke(3, 0, 9);
            for (int n = 0; n < 4 && round == 0; n++) {
                host.kill(n);
            }
        }
        host.poke(3, 0, 8);
        host.run(5);
        Check.due("queued again", 0, () -> host.decision(0) + host.decision(1));
        Check.due("failed with 2", -1, () -> host.decision(2) + host.request(2, 7) - 2);
        Check.due("completed", -1, () -> host.decision(3) + host.request(3, 6) - 2);
        Check.says("Throws `NoSuchElementException` if there is no such request");
        for (int wrong : new int[] {-1, 4, 100, Check.LEAST, Check.GREATEST}) {
            Check.idle(host, "decision " + wrong, NONE, () -> host.decision(wrong));
        }
    }

    private static void decisionWhateverTheCrashes() {
        Check.says("Tells how a request would be decided if its driver crashed now and restarted, whatever its crashes"
                + " and the streak are: 0 queued again, 1 completed, 2 failed with 2.");
        String[] classes = {"pure", "again", "once", "check 1=2", "check 1=1"};
        int[] decisions = {0, 0, 2, 0, 1};
        for (int n = 0; n < classes.length; n++) {
            DriverHost host = Check.loaded("drivers 1;command a " + classes[n] + " time 9;poison 1;streak 0;");
            host.submit(0, 0, 0, 0, 1);
            host.run(2);
            Check.idle(host, classes[n], decisions[n], () -> host.decision(0));
        }
    }

    private static void undoCount() {
        Check.says("Returns the number of operations that can be undone.");
        DriverHost host = Check.loaded("drivers 1;");
        for (int n = 0; n <= 13; n++) {
            int want = Math.min(n, 10);
            Check.due("undoCount after " + n, want, host::undoCount);
            host.poke(0, 0, n);
        }
        for (int n = 9; n >= 0; n--) {
            int want = n;
            host.undo();
            Check.due("undoCount", want, host::undoCount);
        }
    }

    private static void undo() {
        Check.says("Undoes the most recent operation.");
        DriverHost host = Check.loaded("drivers 1;");
        host.poke(0, 0, 5);
        host.poke(0, 1, 6);
        host.undo();
        Check.due("the most recent one", 0, () -> host.register(0, 1));
        Check.due("not the one before", 5, () -> host.register(0, 0));
        Check.says("Returns the number of operations that can still be undone; NONE if there was nothing to undo.");
        Check.due("the last one", 0, host::undo);
        Check.idle(host, "nothing left", -1, host::undo);
        Check.idle(host, "nothing left", -1, host::undo);
        host.run(0);
        host.run(0);
        Check.due("one of two", 1, host::undo);
        Check.due("two of two", 0, host::undo);
        DriverHost fresh = new DriverHost();
        Check.idle(fresh, "a new object", -1, fresh::undo);
    }

    private static void saveAndRestore() {
        Check.says("Saves everything that undoing restores.");
        DriverHost host = Check.loaded("drivers 2;command a again time 2 set 0=arg keep 0=arg;delay 1 4;every 2;");
        for (int n = 0; n < 5; n++) {
            host.submit(n % 2, 0, n, 0, 0);
            host.plan(n, n % 3, 1);
        }
        host.run(4);
        host.saveState();
        String saved = Check.all(host);
        host.run(40);
        host.submit(0, 0, 9, 0, 0);
        host.kill(1);
        Check.due("restoreState", true, host::restoreState);
        Check.due("everything", saved, () -> Check.all(host));
        host.run(40);
        String later = Check.all(host);
        host.restoreState();
        host.run(40);
        Check.due("what follows is the same", later, () -> Check.all(host));
        Check.says("It replaces what was saved earlier.");
        host.saveState();
        host.poke(0, 7, 9);
        Check.due("restoreState", true, host::restoreState);
        Check.due("what was saved last", later, () -> Check.all(host));
        Check.says("What was saved is kept.");
        for (int n = 0; n < 3; n++) {
            host.run(n * 10);
            Check.due("restoreState", true, host::restoreState);
            Check.due("what was saved last", later, () -> Check.all(host));
        }
    }

    private static void restoreClearsTheHistory() {
        Check.says("Restores what was saved and clears the undo history.");
        DriverHost host = Check.loaded("drivers 1;");
        for (int n = 1; n <= 12; n++) {
            host.poke(0, 0, n);
        }
        host.saveState();
        Check.due("saveState leaves it", 10, host::undoCount);
        host.undo();
        Check.due("restoreState", true, host::restoreState);
        Check.due("register", 12, () -> host.register(0, 0));
        Check.due("undoCount", 0, host::undoCount);
        Check.idle(host, "undo", -1, host::undo);
        host.poke(0, 0, 50);
        Check.due("new operations are recorded", 0, host::undo);
        Check.due("and undone", 12, () -> host.register(0, 0));
        Check.due("the same state again", true, host::restoreState);
        Check.due("undoCount", 0, host::undoCount);
    }

    private static void nothingSaved() {
        Check.says("Returns true; false if nothing was saved (nothing changes).");
        DriverHost host = new DriverHost();
        Check.idle(host, "a new object", false, host::restoreState);
        for (int n = 1; n <= 3; n++) {
            host.poke(0, 0, n);
        }
        Check.idle(host, "nothing was saved", false, host::restoreState);
        Check.due("the history is not cleared", 2, host::undo);
        host.saveState();
        Check.due("a load with an error", -11, () -> Check.load(host, "drivers"));
        Check.due("keeps what was saved", true, host::restoreState);
        Check.due("a load", 0, () -> Check.load(host, "drivers 1;"));
        host.poke(0, 0, 8);
        Check.idle(host, "discards it", false, host::restoreState);
        Check.due("the history is not cleared", 0, host::undo);
    }

    private static void query() {
        Check.says("Reads the first bytes of the buffer as a query and evaluates it for every request, in ascending"
                + " order.");
        DriverHost host = Check.loaded("drivers 1;command a pure time 1;");
        for (int n = 0; n < 100; n++) {
            host.submit(0, 0, n % 10, 0, 0);
        }
        Check.feed(host, "many argument=12345");
        Check.due("fourteen bytes: argument=", -1000000001, () -> host.query(14));
        Check.feed(host, "many argument=12345");
        Check.due("fifteen bytes: argument=1", 10, () -> host.query(15));
        Check.feed(host, "many argument<12345");
        Check.due("sixteen bytes: argument<12", 100, () -> host.query(16));
        Check.says("The buffer is empty afterwards, also after an error.");
        Check.refused("nothing is left", () -> host.query(1));
        Check.due("feed", 20, () -> host.feed(0, 0, 0, 0, 0));
        Check.due("an error", -1000000001, () -> host.query(0));
        Check.due("feed", 20, () -> host.feed(0, 0, 0, 0, 0));
        Check.due("an error", -1000000001, () -> host.query(20));
        Check.says("Returns for 'many' the number of requests for which the criterion holds; for 'first' the smallest"
                + " such request, or NONE; HIDDEN minus the error code if the text has an error.");
        Check.due("many", 0, () -> Check.query(host, "many argument=10"));
        Check.due("many", 10, () -> Check.query(host, "many argument=9"));
        Check.due("many", 100, () -> Check.query(host, "many argument<10"));
        Check.due("first", -1, () -> Check.query(host, "first argument=10"));
        Check.due("first", 9, () -> Check.query(host, "first argument=9"));
        Check.due("first", 0, () -> Check.query(host, "first argument<10"));
        Check.due("first", 99, () -> Check.query(host, "first number=99"));
        Check.due("error 1", -1000000001, () -> Check.query(host, "many argument"));
        Check.due("error 2", -1000000002, () -> Check.query(host, "many argument=100000"));
        Check.due("error 3", -1000000003, () -> Check.query(host, "many ((((((("));
        Check.due("a query", 100, () -> Check.query(host, "many 1=1"));
        Check.idle(host, "a query", 100, () -> Check.query(host, "many 1=1"));
    }

    private static void queryLength() {
        Check.says("Throws `IllegalArgumentException` if length is negative, greater than 200, or greater than the"
                + " number of bytes in the buffer (nothing changes)");
        DriverHost host = new DriverHost();
        for (int length : new int[] {-1, 1, 200, 201, Check.LEAST, Check.GREATEST}) {
            Check.idle(host, "query(" + length + ") of none", REFUSED, () -> host.query(length));
        }
        Check.feed(host, "many 1=1" + " ".repeat(172));
        for (int length : new int[] {-1, 181, 200, 201, Check.LEAST, Check.GREATEST}) {
            Check.idle(host, "query(" + length + ") of 180", REFUSED, () -> host.query(length));
        }
        Check.due("query(180) of 180", 0, () -> host.query(180));
        Check.says("- `length`: number of bytes to read, at most 200");
        Check.feed(host, "many 1=1" + " ".repeat(892));
        for (int length : new int[] {-1, 201, 900, 901, Check.LEAST, Check.GREATEST}) {
            Check.idle(host, "query(" + length + ") of 900", REFUSED, () -> host.query(length));
        }
        Check.due("the buffer is left", -1, () -> host.feed(0, 0, 0, 0, 0));
        Check.due("query(200) of 900", 0, () -> host.query(200));
    }
}
