import java.util.ArrayList;
import java.util.List;
import java.util.function.Consumer;
import java.util.function.IntSupplier;

/** Section 9 of the document, sentence by sentence: operations. */
public final class Section9Test {
    private static final String TEXT = "drivers 2;command a again time 2 result reg 0+arg set 0=res keep 0=var 0+res;"
            + "command o once time 1 set 1=arg;command c check reg 1=arg time 1 set 1=arg keep 1=arg;delay 1 4;every 2;"
            + "streak 2;poison 2;";
    private static final String NONE = "throws.NoSuchElementException";
    private static final String REFUSED = "throws.IllegalArgumentException";

    private Section9Test() {
    }

    public static void main(String[] args) {
        operations();
        otherCalls();
        operationsThatChangeNothing();
        refusals();
        refusalsAtTheLastClock();
        refusalsOfLoadAndQuery();
        tenMostRecent();
        mostRecentFirst();
        undoRestoresEverything();
        whatFollowsIsTheSame();
        aRequestAfterAnUndoneOne();
        Check.close("Section9Test");
    }

    /** Driver 0 has a request in flight, driver 1 a queued one; request 0 is completed and request 1 cancelled. */
    private static DriverHost prepared() {
        DriverHost host = Check.loaded(TEXT);
        host.submit(0, 1, 3, 0, 0);
        host.submit(0, 0, 3, 0, 0);
        host.cancel(1);
        host.run(2);
        host.submit(0, 0, 3, 0, 0);
        host.run(1);
        host.submit(1, 2, 3, 0, 0);
        return host;
    }

    private static void records(String what, Consumer<DriverHost> call) {
        DriverHost host = prepared();
        String before = Check.all(host);
        int count = host.undoCount();
        call.accept(host);
        Check.due(what + " is recorded", count + 1, host::undoCount);
        Check.due(what + " is undone", count, host::undo);
        Check.due(what + " has left nothing", before, () -> Check.all(host));
    }

    private static void operations() {
        Check.says("submit, cancel, plan, kill, replace, takeSnapshot, poke and run are operations.");
        records("submit", host -> host.submit(1, 0, 7, 3, 9));
        records("cancel", host -> host.cancel(3));
        records("plan", host -> host.plan(2, 1, 1));
        records("kill", host -> host.kill(0));
        records("replace", host -> host.replace(1));
        records("takeSnapshot", host -> host.takeSnapshot(0));
        records("poke", host -> host.poke(0, 0, 77));
        records("run", host -> host.run(1000));
    }

    private static void otherCalls() {
        DriverHost host = prepared();
        int count = host.undoCount();
        host.saveState();
        Check.due("saveState is none", count, host::undoCount);
        host.forecast(2);
        host.bestDelay(9);
        host.decision(2);
        Check.due("forecasts are none", count, host::undoCount);
        Check.query(host, "many 1=1");
        Check.query(host, "many 1=");
        Check.due("query is none", count, host::undoCount);
        Check.load(host, "drivers 9;");
        Check.due("a load with an error is none", count, host::undoCount);
        host.undo();
        Check.due("undo is none", count - 1, host::undoCount);
        host.restoreState();
        Check.due("restoreState clears the history", 0, host::undoCount);
        Check.load(host, "drivers 2;");
        Check.due("load is none", 0, host::undoCount);
    }

    private static void operationsThatChangeNothing() {
        Check.says("Every successful call is recorded, even if it changes nothing; a call that returns -2, -3 or -4 or"
                + " throws an exception changes nothing.");
        records("run(0)", host -> host.run(0));
        records("a poke of the value that stands there", host -> host.poke(0, 5, host.register(0, 5)));
        records("the plan that a request has", host -> host.plan(2, 0, 0));
        records("the same plan twice", host -> host.plan(3, host.request(3, 12), host.request(3, 13)));
        DriverHost host = Check.loaded("drivers 1;");
        String before = Check.all(host);
        for (int n = 1; n <= 12; n++) {
            host.run(0);
            Check.due("undoCount", Math.min(10, n), host::undoCount);
        }
        for (int n = 9; n >= 0; n--) {
            Check.due("undo", n, host::undo);
            Check.due("nothing changes", before, () -> Check.all(host));
        }
    }

    private static void refusals() {
        DriverHost host = prepared();
        Check.idle(host, "submit to no driver", NONE, () -> host.submit(2, 0, 0, 0, 0));
        Check.idle(host, "submit of no command", NONE, () -> host.submit(0, 3, 0, 0, 0));
        Check.idle(host, "submit with a wrong priority", REFUSED, () -> host.submit(0, 0, 0, 4, 0));
        Check.idle(host, "submit with a wrong limit", REFUSED, () -> host.submit(0, 0, 0, 0, 100001));
        Check.idle(host, "cancel of no request", NONE, () -> host.cancel(4));
        Check.idle(host, "cancel of a completed one", -2, () -> host.cancel(0));
        Check.idle(host, "cancel of a failed one", -2, () -> host.cancel(1));
        Check.idle(host, "cancel of one in flight", -2, () -> host.cancel(2));
        Check.idle(host, "plan of no request", NONE, () -> host.plan(4, 0, 0));
        Check.idle(host, "plan with a wrong point", REFUSED, () -> host.plan(2, 3, 0));
        Check.idle(host, "plan with wrong times", REFUSED, () -> host.plan(2, 1, 21));
        Check.idle(host, "plan of a completed one", -2, () -> host.plan(0, 1, 1));
        Check.idle(host, "plan of a failed one", -2, () -> host.plan(1, 1, 1));
        Check.idle(host, "kill of no driver", NONE, () -> host.kill(2));
        Check.idle(host, "replace of no driver", NONE, () -> host.replace(2));
        Check.idle(host, "replace with a request in flight", -3, () -> host.replace(0));
        Check.idle(host, "takeSnapshot of no driver", NONE, () -> host.takeSnapshot(2));
        Check.idle(host, "poke of no driver", NONE, () -> host.poke(2, 0, 0));
        Check.idle(host, "poke of no register", NONE, () -> host.poke(0, 8, 0));
        Check.idle(host, "poke of a wrong value", REFUSED, () -> host.poke(0, 0, 65536));
        Check.idle(host, "run of too many ticks", REFUSED, () -> host.run(1001));
        host.kill(0);
        Check.idle(host, "kill of one that is down", -2, () -> host.kill(0));
        Check.idle(host, "replace of one that is down", -2, () -> host.replace(0));
        Check.idle(host, "takeSnapshot of one that is down", -2, () -> host.takeSnapshot(0));
        host.run(3);
        host.kill(0);
        host.run(4);
        host.kill(0);
        Check.due("dead", 2, () -> host.driverState(0));
        Check.idle(host, "submit to a dead one", -2, () -> host.submit(0, 0, 0, 0, 0));
        Check.idle(host, "kill of a dead one", -2, () -> host.kill(0));
        Check.idle(host, "replace of a dead one", -2, () -> host.replace(0));
        Check.idle(host, "takeSnapshot of a dead one", -2, () -> host.takeSnapshot(0));
        String before = Check.all(host);
        host.poke(0, 0, 9);
        Check.idle(host, "a refusal between an operation and its undoing", -2, () -> host.kill(0));
        host.undo();
        Check.due("the operation is undone, not the refusal", before, () -> Check.all(host));
    }

    private static void refusalsAtTheLastClock() {
        DriverHost host = Check.loaded(TEXT);
        for (int n = 0; n < 1000; n++) {
            host.run(1000);
        }
        Check.due("clock", 1000000, host::clock);
        host.submit(0, 0, 0, 0, 0);
        Check.idle(host, "run(1)", -4, () -> host.run(1));
        Check.idle(host, "run(1000)", -4, () -> host.run(1000));
        Check.idle(host, "run(1001)", REFUSED, () -> host.run(1001));
        Check.idle(host, "bestDelay(1)", REFUSED, () -> host.bestDelay(1));
        Check.idle(host, "forecast", -1, () -> host.forecast(0));
        Check.due("run(0)", 0, () -> host.run(0));
    }

    private static void refusalsOfLoadAndQuery() {
        DriverHost host = prepared();
        host.saveState();
        Check.feed(host, "drivers 1;");
        for (int length : new int[] {-1, 21, 900, 901, Check.LEAST, Check.GREATEST}) {
            Check.idle(host, "load(" + length + ")", REFUSED, () -> host.load(length));
            Check.idle(host, "query(" + length + ")", REFUSED, () -> host.query(length));
        }
        int blanks = 0x20202020;
        Check.due("the buffer is left", 40, () -> host.feed(blanks, blanks, blanks, blanks, blanks));
        Check.due("and read then", 0, () -> host.load(40));
        Check.due("drivers", 1, host::driverCount);
    }

    private static void tenMostRecent() {
        Check.says("The 10 most recent operations can be undone, the most recent one first.");
        for (int made : new int[] {1, 9, 10, 11, 12, 19, 20, 21, 35}) {
            DriverHost host = Check.loaded(TEXT);
            for (int value = 1; value <= made; value++) {
                host.poke(0, 0, value);
            }
            int most = Math.min(10, made);
            Check.due("undoCount after " + made, most, host::undoCount);
            for (int undone = 1; undone <= most; undone++) {
                int left = most - undone;
                int value = made - undone;
                Check.due("undo after " + made, left, host::undo);
                Check.due("the value after " + made, value, () -> host.register(0, 0));
            }
            Check.idle(host, "nothing is left after " + made, -1, host::undo);
        }
    }

    private static void mostRecentFirst() {
        DriverHost host = Check.loaded(TEXT);
        for (int value = 1; value <= 25; value++) {
            host.poke(0, 0, value);
            if (value % 5 == 0) {
                host.undo();
                host.undo();
                host.poke(0, 1, value);
            }
        }
        StringBuilder told = new StringBuilder();
        while (host.undo() != -1) {
            told.append(host.register(0, 0)).append('/').append(host.register(0, 1)).append(' ');
        }
        // The last two undoings took two of the ten away, and one operation followed.
        Check.due("the values", "23/20 22/20 21/20 18/20 18/15 17/15 16/15 13/15 13/10 ", told::toString);
    }

    private static void undoRestoresEverything() {
        Check.says("Undoing restores everything that the operation changed, the journal included.");
        DriverHost host = Check.loaded(TEXT + "streak 20;calm 2;");
        List<String> stories = new ArrayList<>();
        for (int n = 0; n < 40; n++) {
            host.submit(n % 2, n % 3, n, n % 4, n % 5 * 4);
            host.plan(n, n % 3, 1);
            host.run(2);
            host.takeSnapshot(1);
        }
        for (int n = 0; n < 10; n++) {
            stories.add(Check.all(host));
            host.run(n * n * 3);
        }
        for (int n = 9; n >= 0; n--) {
            int left = n;
            String story = stories.get(n);
            Check.due("undo", left, host::undo);
            Check.due("everything before run " + n, story, () -> Check.all(host));
        }
    }

    /** All that can't be seen at once shows in what follows. */
    private static void whatFollowsIsTheSame() {
        DriverHost host = Check.loaded("drivers 2;command a again time 3 result var 0 set 0=reg 0+arg keep 0=var 0+arg;"
                + "command c check reg 0>20 time 2;delay 1 8;streak 20;calm 7;every 3;poison 4;");
        for (int n = 0; n < 30; n++) {
            host.submit(n % 2, n % 5 / 4, n, n % 3, n % 7 * 9);
            host.plan(n, n % 4 % 3, n % 3);
            host.run(2);
            int round = n;
            List<String> first = played(host, round);
            Check.due("what follows after " + n, first, () -> played(host, round));
        }
    }

    /** Plays some operations, and undoes them. */
    private static List<String> played(DriverHost host, int round) {
        List<String> stories = new ArrayList<>();
        int driver = round % 2;
        List<IntSupplier> operations = List.of(() -> host.submit(driver, 0, round, 3, 5), () -> host.kill(driver),
                () -> host.poke(driver, 0, round), () -> host.run(1), () -> host.takeSnapshot(1 - driver),
                () -> host.run(3), () -> host.run(6), () -> host.run(11));
        int made = 0;
        for (IntSupplier operation : operations) {
            made += operation.getAsInt() >= 0 ? 1 : 0;
            stories.add(Check.all(host));
        }
        for (int undone = 0; undone < made; undone++) {
            host.undo();
        }
        return stories;
    }

    private static void aRequestAfterAnUndoneOne() {
        DriverHost host = Check.loaded(TEXT);
        host.run(3);
        for (int ticks : new int[] {0, 1, 2, 20}) {
            host.submit(1, 2, 77, 3, 88);
            host.plan(0, 2, 9);
            host.run(ticks);
            for (int n = 0; n < 3; n++) {
                host.undo();
            }
            Check.due("undone", 0, host::requestCount);
            Check.due("submit", 0, () -> host.submit(0, 1, 5, 1, 6));
            int[] fresh = {0, 1, 5, 1, 6, 3, 0, 0, 0, 0, 0, 0, 0, 0, -1};
            for (int what = 0; what < fresh.length; what++) {
                int asked = what;
                Check.due("property " + what + " of the new one", fresh[what], () -> host.request(0, asked));
            }
            host.undo();
        }
        host.submit(1, 2, 77, 3, 88);
        host.saveState();
        host.undo();
        host.submit(0, 1, 5, 1, 6);
        host.restoreState();
        int[] saved = {1, 2, 77, 3, 88, 3, 0, 0, 0, 0, 0, 0, 0, 0, -1};
        for (int what = 0; what < saved.length; what++) {
            int asked = what;
            Check.due("property " + what + " of the saved one", saved[what], () -> host.request(0, asked));
        }
    }
}
