import java.util.ArrayList;
import java.util.List;

/** Promises 39 to 42, and section 9: undoing, saving and restoring. */
public final class UndoTest {
    private static final String TEXT = "drivers 2;command a again time 2 result reg 0+arg set 0=res keep 0=var 0+res;"
            + "command o once time 1 set 1=arg;command c check reg 1=arg time 1 set 1=arg keep 1=arg;delay 1 4;"
            + "every 2;";

    private UndoTest() {
    }

    public static void main(String[] args) {
        promise39UndoCount();
        promise40EveryOperation();
        promise40TenOnly();
        promise40AfterUndoing();
        promises41And42SaveAndRestore();
        promise42OtherRequests();
        promise42FewerRequests();
        promise42Log();
        promise42CalmTime();
        promise42RingOfRecords();
        promise42NothingSaved();
        undoAndSavingAreApart();
        bufferIsLeft();
        Check.close("UndoTest");
    }

    private static void promise39UndoCount() {
        DriverHost host = Check.loaded(TEXT);
        Check.due("at first", 0, host::undoCount);
        for (int n = 1; n <= 12; n++) {
            host.run(0);
            Check.due("after " + n, Math.min(n, 10), host::undoCount);
        }
        host.saveState();
        host.forecast(host.submit(0, 0, 0, 0, 0));
        host.bestDelay(5);
        Check.query(host, "many state=0");
        Check.due("other calls are no operations", 10, host::undoCount);
        for (int n = 9; n >= 0; n--) {
            Check.due("undo", n, host::undo);
            Check.due("undoCount", n, host::undoCount);
        }
        Check.due("nothing left", -1, host::undo);
        Check.due("undoCount", 0, host::undoCount);
    }

    private static void promise40EveryOperation() {
        DriverHost host = Check.loaded(TEXT);
        host.submit(0, 0, 7, 1, 0);
        host.submit(1, 1, 8, 1, 0);
        host.submit(1, 2, 9, 1, 20);
        host.submit(0, 0, 2, 0, 3);
        host.plan(2, 2, 1);
        List<String> before = new ArrayList<>();
        List<Runnable> operations = List.of(() -> host.submit(0, 1, 5, 3, 9), () -> host.cancel(3),
                () -> host.plan(0, 2, 1), () -> host.run(5), () -> host.poke(0, 0, 99), () -> host.kill(0),
                () -> host.takeSnapshot(1), () -> host.replace(1), () -> host.run(0), () -> host.run(30));
        for (Runnable operation : operations) {
            before.add(Check.all(host));
            int count = host.undoCount();
            operation.run();
            Check.due("the operation is recorded", Math.min(10, count + 1), host::undoCount);
        }
        for (int n = operations.size() - 1; n >= 0; n--) {
            int left = n;
            Check.due("undo", left, host::undo);
            Check.due("all is as before operation " + n, before.get(n), () -> Check.all(host));
        }
    }

    private static void promise40TenOnly() {
        DriverHost host = Check.loaded(TEXT);
        for (int value = 1; value <= 15; value++) {
            host.poke(1, 4, value);
        }
        for (int n = 0; n < 10; n++) {
            host.undo();
        }
        Check.due("five pokes are left", 5, () -> host.register(1, 4));
        Check.due("nothing to undo", -1, host::undo);
        Check.due("five pokes are left", 5, () -> host.register(1, 4));
    }

    private static void promise40AfterUndoing() {
        DriverHost host = Check.loaded(TEXT);
        for (int value = 1; value <= 10; value++) {
            host.poke(0, 0, value);
        }
        for (int n = 0; n < 4; n++) {
            host.undo();
        }
        for (int value = 101; value <= 106; value++) {
            host.poke(0, 0, value);
        }
        Check.due("undoCount", 10, host::undoCount);
        int[] values = {105, 104, 103, 102, 101, 6, 5, 4, 3, 2};
        for (int n = 0; n < values.length; n++) {
            host.undo();
            Check.due("register", values[n], () -> host.register(0, 0));
        }
        host.poke(0, 0, 77);
        host.undo();
        host.submit(0, 0, 1, 0, 0);
        host.run(2);
        host.undo();
        host.undo();
        host.submit(0, 1, 2, 0, 0);
        int[] fresh = {0, 1, 2, 0, 0, 0, 0, 0, 0, 0, 0, 0, 0, 0, -1};
        for (int what = 0; what < fresh.length; what++) {
            int asked = what;
            Check.due("nothing of the undone request is left", fresh[what], () -> host.request(0, asked));
        }
    }

    private static void promises41And42SaveAndRestore() {
        DriverHost host = Check.loaded(TEXT);
        host.submit(0, 0, 7, 1, 0);
        host.submit(1, 2, 8, 1, 0);
        host.plan(1, 2, 1);
        host.run(1);
        host.saveState();
        String saved = Check.all(host);
        host.run(100);
        host.submit(0, 0, 1, 0, 0);
        host.kill(1);
        Check.due("restoreState", true, host::restoreState);
        Check.due("all is as it was saved", saved, () -> Check.all(host));
        Check.due("the undo history is cleared", 0, host::undoCount);
        Check.due("undo", -1, host::undo);
        host.run(50);
        Check.due("what was saved is kept", true, host::restoreState);
        Check.due("all is as it was saved", saved, () -> Check.all(host));
        host.run(3);
        host.saveState();
        String later = Check.all(host);
        host.poke(0, 7, 7);
        Check.due("restoreState", true, host::restoreState);
        Check.due("what was saved earlier is replaced", later, () -> Check.all(host));
    }

    private static void restores(String what, DriverHost host, String saved) {
        Check.due(what + ": restoreState", true, host::restoreState);
        Check.due(what + ": all is as it was saved", saved, () -> Check.all(host));
    }

    private static void promise42OtherRequests() {
        DriverHost host = Check.loaded(TEXT);
        host.submit(1, 2, 33, 3, 44);
        host.saveState();
        String saved = Check.all(host);
        host.undo();
        host.run(4);
        host.submit(0, 1, 5, 1, 6);
        restores("another request with the same number", host, saved);
        host.run(1);
        Check.due("it is executed as it was", 33, () -> host.register(1, 1));
    }

    private static void promise42FewerRequests() {
        DriverHost host = Check.loaded(TEXT + "poison 1;");
        host.saveState();
        host.submit(1, 2, 33, 3, 44);
        host.plan(0, 2, 3);
        host.run(2);
        Check.due("it is poisoned", 3, () -> host.request(0, 7));
        host.restoreState();
        submittedAnew("a poisoned one", host);
        host.run(1);
        Check.due("it is in flight", 1, () -> host.request(0, 11));
        host.restoreState();
        submittedAnew("one in flight", host);
        host.run(5);
        Check.due("it is completed", 2, () -> host.request(0, 6));
        host.restoreState();
        submittedAnew("a completed one", host);
    }

    private static void submittedAnew(String lost, DriverHost host) {
        host.submit(0, 0, 1, 0, 0);
        int[] queued = {0, 0, 1, 0, 0, 0, 0, 0, 0, 0, 0, 0, 0, 0, -1};
        for (int what = 0; what < queued.length; what++) {
            int asked = what;
            Check.due("property " + what + " after " + lost, queued[what], () -> host.request(0, asked));
        }
    }

    private static void promise42Log() {
        DriverHost host = Check.loaded("drivers 1;command a pure time 1 keep 0=var 0*2+arg;every 3;");
        for (int argument = 1; argument <= 6; argument++) {
            host.submit(0, 0, argument, argument % 2, 0);
        }
        host.run(2);
        host.saveState();
        String saved = Check.all(host);
        Check.due("the log", 2, () -> host.logged(0, 0) + host.logged(0, 1));
        host.run(3);
        Check.due("another log", 4, () -> host.logged(0, 0) + host.logged(0, 1));
        restores("the log", host, saved);
        host.kill(0);
        host.run(4);
        Check.due("restored by the requests 0 and 2, and then request 4", (1 * 2 + 3) * 2 + 5,
                () -> host.variable(0, 0));
    }

    private static void promise42CalmTime() {
        DriverHost host = Check.loaded("drivers 1;calm 10;");
        host.kill(0);
        host.run(4);
        host.saveState();
        host.run(2);
        host.kill(0);
        host.run(30);
        host.restoreState();
        host.run(8);
        Check.due("not calm before the tick at 12", 1, () -> host.streak(0));
        host.run(1);
        Check.due("calm", 0, () -> host.streak(0));
    }

    private static void promise42RingOfRecords() {
        DriverHost host = Check.loaded(TEXT);
        for (int n = 0; n < 20; n++) {
            host.submit(n % 2, n % 3, n, n % 4, 0);
        }
        host.run(3);
        host.saveState();
        String saved = Check.all(host);
        for (int n = 0; n < 80; n++) {
            host.submit((n + 1) % 2, n % 2, n, n % 3, 0);
            host.run(2);
            host.takeSnapshot(1 - n % 2);
        }
        Check.due("the ring has gone round", 200, host::recordCount);
        restores("the ring of records", host, saved);
        host.takeSnapshot(0);
        for (int n = 0; n < 9; n++) {
            host.run(100);
        }
        for (int n = 0; n < 10; n++) {
            host.undo();
        }
        Check.due("all is undone", saved, () -> Check.all(host));
    }

    private static void promise42NothingSaved() {
        DriverHost host = Check.loaded(TEXT);
        host.poke(0, 0, 5);
        Check.due("restoreState", false, host::restoreState);
        Check.due("nothing changed", 5, () -> host.register(0, 0));
        Check.due("the undo history is left", 1, host::undoCount);
        host.saveState();
        Check.load(host, "drivers 1;");
        Check.due("discarded by load", false, host::restoreState);
        Check.due("drivers", 1, host::driverCount);
    }

    private static void undoAndSavingAreApart() {
        DriverHost host = Check.loaded(TEXT);
        host.poke(0, 0, 5);
        host.saveState();
        host.poke(0, 0, 6);
        host.undo();
        host.undo();
        Check.due("undone", 0, () -> host.register(0, 0));
        host.saveState();
        host.poke(0, 0, 8);
        Check.due("restoreState", true, host::restoreState);
        Check.due("saved after undoing", 0, () -> host.register(0, 0));
    }

    private static void bufferIsLeft() {
        DriverHost host = Check.loaded(TEXT);
        host.poke(0, 0, 5);
        host.saveState();
        host.feed(0x20202020, 0, 0, 0, 0);
        host.undo();
        host.restoreState();
        Check.due("the buffer is left", 40, () -> host.feed(0, 0, 0, 0, 0));
    }
}
