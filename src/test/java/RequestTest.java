/** Promises 7, 11 to 13 and 28 to 30, and section 3: requests. */
public final class RequestTest {
    private RequestTest() {
    }

    public static void main(String[] args) {
        promise11Submit();
        promise11Refusals();
        promise11Hundred();
        promise12Cancel();
        promise12CancelAtADriverThatIsDown();
        promise13Plan();
        promise13PointsAndTimes();
        promise28NextRequest();
        promise28Returned();
        promise29Queued();
        promise30Request();
        promise30RemainingTime();
        Check.close("RequestTest");
    }

    private static void promise11Submit() {
        DriverHost host = Check.loaded("drivers 2;command a pure time 1;command b once time 5;");
        host.run(4);
        Check.due("requestCount", 0, host::requestCount);
        Check.due("submit", 0, () -> host.submit(1, 1, Integer.MIN_VALUE, 3, 100000));
        Check.due("submit", 1, () -> host.submit(0, 0, 7, 0, 0));
        Check.due("requestCount", 2, host::requestCount);
        int[] first = {1, 1, Integer.MIN_VALUE, 3, 100000, 4, 0, 0, 0, 0, 0, 0, 0, 0, -1};
        for (int what = 0; what < first.length; what++) {
            int asked = what;
            Check.due("request(0, " + what + ")", first[what], () -> host.request(0, asked));
        }
        Check.due("accepted records", 2, () -> host.total(0));
        Check.due("it is an operation", 3, host::undoCount);
        host.undo();
        Check.due("undone", 1, host::requestCount);
        Check.due("the number is used again", 1, () -> host.submit(1, 0, 9, 1, 2));
        Check.due("with its own argument", 9, () -> host.request(1, 2));
    }

    private static void promise11Refusals() {
        DriverHost host = Check.loaded("drivers 2;command a pure time 1;streak 0;");
        String before = Check.all(host);
        for (int wrong : new int[] {-1, 2, Integer.MAX_VALUE, Integer.MIN_VALUE}) {
            Check.missing("driver " + wrong, () -> host.submit(wrong, 0, 0, 0, 0));
            Check.missing("driver " + wrong + " before the priority", () -> host.submit(wrong, 0, 0, 9, -9));
        }
        for (int wrong : new int[] {-1, 1, Integer.MAX_VALUE, Integer.MIN_VALUE}) {
            Check.missing("command " + wrong, () -> host.submit(0, wrong, 0, 0, 0));
            Check.missing("command " + wrong + " before the priority", () -> host.submit(0, wrong, 0, -1, 0));
        }
        for (int wrong : new int[] {-1, 4, Integer.MAX_VALUE, Integer.MIN_VALUE}) {
            Check.refused("priority " + wrong, () -> host.submit(0, 0, 0, wrong, 0));
        }
        for (int wrong : new int[] {-1, 100001, Integer.MAX_VALUE, Integer.MIN_VALUE}) {
            Check.refused("limit " + wrong, () -> host.submit(0, 0, 0, 0, wrong));
        }
        Check.due("nothing changed", before, () -> Check.all(host));
        Check.due("no operation", 0, host::undoCount);
        host.kill(0);
        before = Check.all(host);
        Check.due("a dead driver", -2, () -> host.submit(0, 0, 0, 0, 0));
        Check.refused("the priority is looked at before", () -> host.submit(0, 0, 0, 4, 0));
        Check.due("nothing changed", before, () -> Check.all(host));
        Check.due("one operation", 1, host::undoCount);
        Check.due("the other driver", 0, () -> host.submit(1, 0, 0, 3, 100000));
    }

    private static void promise11Hundred() {
        DriverHost host = Check.loaded("drivers 2;command a pure time 1;streak 0;");
        for (int n = 0; n < 100; n++) {
            int want = n;
            Check.due("submit", want, () -> host.submit(want % 2, 0, 0, 0, 0));
        }
        Check.due("the next one", -3, () -> host.submit(0, 0, 0, 0, 0));
        host.run(1000);
        Check.due("after they are done", -3, () -> host.submit(0, 0, 0, 0, 0));
        Check.due("undo history", 10, host::undoCount);
        Check.refused("the limit is looked at before", () -> host.submit(0, 0, 0, 0, -1));
        host.kill(0);
        Check.due("a dead driver is looked at before", -2, () -> host.submit(0, 0, 0, 0, 0));
        Check.due("all are done", 100, () -> host.total(2));
        Check.missing("request 100", () -> host.request(100, 0));
    }

    private static void promise12Cancel() {
        DriverHost host = Check.loaded("drivers 1;command a pure time 2;");
        Check.missing("no request", () -> host.cancel(0));
        host.submit(0, 0, 0, 0, 0);
        host.submit(0, 0, 0, 0, 0);
        host.run(1);
        Check.missing("request -1", () -> host.cancel(-1));
        Check.missing("request 2", () -> host.cancel(2));
        Check.due("in flight", -2, () -> host.cancel(0));
        Check.due("queued", 1, () -> host.cancel(1));
        Check.due("failure", 4, () -> host.request(1, 7));
        Check.due("state", 3, () -> host.request(1, 6));
        Check.due("ended", 1, () -> host.request(1, 14));
        Check.due("queued", 0, () -> host.queued(0));
        Check.due("failed already", -2, () -> host.cancel(1));
        host.run(1);
        Check.due("completed", -2, () -> host.cancel(0));
        Check.due("one failure", 1, () -> host.total(3));
        Check.due("refused calls are no operations", 5, host::undoCount);
        Check.due("the record", 3, () -> host.record(3, 1));
        Check.due("its request", 1, () -> host.record(3, 3));
    }

    private static void promise12CancelAtADriverThatIsDown() {
        DriverHost host = Check.loaded("drivers 1;command a again time 9;");
        host.submit(0, 0, 0, 0, 0);
        host.submit(0, 0, 0, 3, 0);
        host.submit(0, 0, 0, 0, 0);
        host.run(1);
        host.kill(0);
        Check.due("in flight at a driver that is down", -2, () -> host.cancel(1));
        Check.due("queued at a driver that is down", 1, () -> host.cancel(0));
        host.run(4);
        Check.due("restarted", 0, () -> host.driverState(0));
        Check.due("the returned one is in flight again", -2, () -> host.cancel(1));
        Check.due("queued", 5, () -> host.cancel(2));
        Check.due("none left", 0, () -> host.queued(0));
    }

    private static void promise13Plan() {
        DriverHost host = Check.loaded("drivers 1;command a pure time 1;");
        Check.missing("no request", () -> host.plan(0, 0, 0));
        Check.missing("no request before the point", () -> host.plan(0, 9, 99));
        host.submit(0, 0, 0, 0, 0);
        for (int wrong : new int[] {-1, 3, Integer.MAX_VALUE, Integer.MIN_VALUE}) {
            Check.refused("point " + wrong, () -> host.plan(0, wrong, 1));
        }
        for (int wrong : new int[] {-1, 21, Integer.MAX_VALUE, Integer.MIN_VALUE}) {
            Check.refused("times " + wrong, () -> host.plan(0, 1, wrong));
        }
        Check.due("no operation", 1, host::undoCount);
        Check.due("plan", 0, () -> host.plan(0, 2, 20));
        Check.due("point", 2, () -> host.request(0, 12));
        Check.due("times", 20, () -> host.request(0, 13));
        Check.due("plan", 2, () -> host.plan(0, 0, 5));
        Check.due("point", 0, () -> host.request(0, 12));
        Check.due("times", 5, () -> host.request(0, 13));
        Check.due("plan", 0, () -> host.plan(0, 1, 0));
        host.run(1);
        Check.due("a plan without times does nothing", 2, () -> host.request(0, 6));
        Check.due("completed", -2, () -> host.plan(0, 0, 0));
        Check.refused("the point is looked at before", () -> host.plan(0, 3, 0));
        host.submit(0, 0, 0, 0, 0);
        host.cancel(1);
        Check.due("failed", -2, () -> host.plan(1, 0, 0));
        Check.due("operations", 7, host::undoCount);
    }

    private static void promise13PointsAndTimes() {
        DriverHost host = Check.loaded("drivers 2;command a again time 1 set 0=reg 0+1;poison 20;delay 1 1;");
        host.submit(0, 0, 0, 0, 0);
        host.submit(1, 0, 0, 0, 0);
        host.plan(0, 1, 2);
        host.plan(1, 2, 2);
        host.run(1);
        Check.due("before the effect", 0, () -> host.register(0, 0));
        Check.due("after the effect", 1, () -> host.register(1, 0));
        Check.due("times left", 1, () -> host.request(0, 13) * host.request(1, 13));
        Check.due("the point stays", 3, () -> host.request(0, 12) + host.request(1, 12));
        host.run(20);
        Check.due("executions without the crashes", 1, () -> host.request(0, 9));
        Check.due("executions with the crashes", 3, () -> host.request(1, 9));
        Check.due("crashes", 4, () -> host.request(0, 10) + host.request(1, 10));
        Check.due("times left", 0, () -> host.request(0, 13) + host.request(1, 13));
        Check.due("registers", 13, () -> host.register(0, 0) * 10 + host.register(1, 0));
        Check.due("each completes once", 2, () -> host.total(2));
        host.submit(0, 0, 0, 0, 0);
        host.plan(2, 0, 20);
        host.run(1);
        Check.due("point 0 lets no driver crash", 2, () -> host.request(2, 6));
    }

    private static void promise28NextRequest() {
        DriverHost host = Check.loaded("drivers 2;command a pure time 1;");
        Check.due("none", -1, () -> host.nextRequest(0));
        Check.missing("no such driver", () -> host.nextRequest(2));
        Check.missing("no such driver", () -> host.nextRequest(-1));
        host.submit(0, 0, 0, 1, 0);
        host.submit(0, 0, 0, 2, 0);
        host.submit(1, 0, 0, 3, 0);
        host.submit(0, 0, 0, 2, 0);
        host.submit(0, 0, 0, 0, 0);
        Check.due("the other driver", 2, () -> host.nextRequest(1));
        for (int want : new int[] {1, 3, 0, 4, -1}) {
            Check.due("by priority, then by number", want, () -> host.nextRequest(0));
            host.run(1);
        }
        Check.due("the begun ones in order", 1, () -> host.request(1, 14) + host.request(3, 14));
    }

    private static void promise28Returned() {
        DriverHost host = Check.loaded("drivers 1;command a again time 2;delay 1 1;");
        host.submit(0, 0, 0, 0, 0);
        host.run(1);
        host.submit(0, 0, 0, 3, 0);
        host.kill(0);
        Check.due("in flight while it is down", 0, () -> host.inFlight(0));
        Check.due("the next one while it is down", 1, () -> host.nextRequest(0));
        host.run(3);
        Check.due("the returned one goes first", 0, () -> host.inFlight(0));
        Check.due("the next one then", 1, () -> host.nextRequest(0));
        Check.due("one was queued again", 1, () -> host.total(7));
    }

    private static void promise29Queued() {
        DriverHost host = Check.loaded("drivers 2;command a again time 2;delay 1 1;streak 1;calm 99;");
        Check.missing("no such driver", () -> host.queued(2));
        Check.missing("no such driver", () -> host.queued(-1));
        Check.due("none", 0, () -> host.queued(0));
        host.submit(0, 0, 0, 0, 0);
        host.submit(0, 0, 0, 0, 2);
        host.submit(0, 0, 0, 0, 0);
        host.submit(1, 0, 0, 0, 0);
        Check.due("three", 3, () -> host.queued(0));
        Check.due("one", 1, () -> host.queued(1));
        host.run(1);
        Check.due("one in flight", 2, () -> host.queued(0));
        host.cancel(2);
        Check.due("one cancelled", 1, () -> host.queued(0));
        host.kill(0);
        host.run(2);
        Check.due("one too late", 0, () -> host.queued(0));
        host.submit(0, 0, 0, 0, 0);
        host.run(1);
        host.submit(0, 0, 0, 0, 0);
        host.kill(0);
        Check.due("dead", 2, () -> host.driverState(0));
        Check.due("none at a dead driver", 0, () -> host.queued(0));
        Check.due("no next one either", -1, () -> host.nextRequest(0));
        Check.due("nor one in flight", -1, () -> host.inFlight(0));
    }

    private static void promise30Request() {
        DriverHost host = Check.loaded("drivers 1;command a pure time 1 result arg*2;");
        Check.missing("no request", () -> host.request(0, 0));
        host.submit(0, 0, -21, 2, 30);
        for (int wrong : new int[] {-1, 15, Integer.MAX_VALUE, Integer.MIN_VALUE}) {
            Check.missing("what " + wrong, () -> host.request(0, wrong));
            Check.missing("request " + wrong, () -> host.request(wrong, 0));
        }
        host.run(6);
        int[] done = {0, 0, -21, 2, 30, 0, 2, 0, -42, 1, 0, 0, 0, 0, 0};
        for (int what = 0; what < done.length; what++) {
            int asked = what;
            Check.due("request(0, " + what + ")", done[what], () -> host.request(0, asked));
        }
        host.submit(0, 0, 1000000, 0, 0);
        host.plan(1, 2, 20);
        host.run(100);
        int[] poisoned = {0, 0, 1000000, 0, 0, 6, 3, 3, 0, 3, 3, 0, 2, 17};
        for (int what = 0; what < poisoned.length; what++) {
            int asked = what;
            Check.due("request(1, " + what + ")", poisoned[what], () -> host.request(1, asked));
        }
        Check.due("clock of the third crash: 6, 9, 14", 14, () -> host.request(1, 14));
    }

    private static void promise30RemainingTime() {
        DriverHost host = Check.loaded("drivers 1;command a again time 3;");
        host.submit(0, 0, 0, 0, 0);
        Check.due("queued", 0, () -> host.request(0, 11));
        host.run(1);
        Check.due("in flight", 2, () -> host.request(0, 11));
        host.run(1);
        Check.due("in flight", 1, () -> host.request(0, 11));
        host.kill(0);
        Check.due("in flight at a driver that is down", 0, () -> host.request(0, 11));
        Check.due("its state", 1, () -> host.request(0, 6));
        host.run(4);
        Check.due("begun anew with its whole time", 2, () -> host.request(0, 11));
        host.run(2);
        Check.due("completed", 0, () -> host.request(0, 11));
    }
}
