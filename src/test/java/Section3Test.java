/** Section 3 of the document, sentence by sentence: requests. */
public final class Section3Test {
    private Section3Test() {
    }

    public static void main(String[] args) {
        numberOfRequests();
        prioritiesAndLimits();
        noTimeLimit();
        states();
        failures();
        executionsAndCrashes();
        plans();
        nextRequest();
        returnedFirst();
        returnedFirstThoughAnotherFails();
        oneInFlight();
        Check.close("Section3Test");
    }

    private static void numberOfRequests() {
        Check.says("There are at most 100 requests, numbered from 0.");
        DriverHost host = Check.loaded("drivers 4;command a pure time 1;");
        Check.missing("request 0 of none", () -> host.request(0, 0));
        for (int n = 0; n < 100; n++) {
            int number = n;
            Check.due("submit", number, () -> host.submit(number % 4, 0, number, 0, 0));
            Check.due("requestCount", number + 1, host::requestCount);
            Check.due("the argument of " + n, number, () -> host.request(number, 2));
            Check.missing("request " + (n + 1), () -> host.request(number + 1, 0));
        }
        for (int driver = 0; driver < 4; driver++) {
            int asked = driver;
            Check.idle(host, "the request 100", -3, () -> host.submit(asked, 0, 0, 0, 0));
        }
        host.run(1000);
        Check.due("all are completed", 100, () -> host.total(2));
        Check.idle(host, "also when all are completed", -3, () -> host.submit(0, 0, 0, 0, 0));
        for (int n = 0; n < 2; n++) {
            host.undo();
        }
        Check.due("one is taken back", 99, host::requestCount);
        Check.due("and there is room for one", 99, () -> host.submit(0, 0, 5, 0, 0));
        Check.idle(host, "but not for two", -3, () -> host.submit(0, 0, 5, 0, 0));
        for (int wrong : new int[] {100, -1, Check.LEAST, Check.GREATEST}) {
            String none = "throws.NoSuchElementException";
            Check.idle(host, "cancel " + wrong, none, () -> host.cancel(wrong));
            Check.idle(host, "plan " + wrong, none, () -> host.plan(wrong, 0, 0));
            Check.missing("request " + wrong, () -> host.request(wrong, 0));
            Check.missing("forecast " + wrong, () -> host.forecast(wrong));
            Check.missing("decision " + wrong, () -> host.decision(wrong));
        }
        Check.found("request 99", () -> host.request(99, 0));
        Check.found("forecast 99", () -> host.forecast(99));
        Check.found("decision 99", () -> host.decision(99));
        Check.found("plan 99", () -> host.plan(99, 0, 0));
        Check.found("cancel 99", () -> host.cancel(99));
    }

    private static void prioritiesAndLimits() {
        Check.says("A request has a driver, a command, an argument, a priority (0 to 3), a time limit (0 for none), the"
                + " clock at which it was accepted, and a state: 0 queued; 1 in flight; 2 completed; 3 failed.");
        DriverHost host = Check.loaded("drivers 4;command a pure time 1;command b once time 2;");
        int[][] fine = {{0, 0, 0, 0, 0}, {3, 1, Check.LEAST, 3, 100000}, {2, 1, Check.GREATEST, 1, 99999},
            {1, 0, -1, 2, 1}};
        for (int n = 0; n < fine.length; n++) {
            int[] put = fine[n];
            int number = n;
            Check.due("submit", number, () -> host.submit(put[0], put[1], put[2], put[3], put[4]));
            for (int what = 0; what < 5; what++) {
                int asked = what;
                Check.due("property " + what, put[what], () -> host.request(number, asked));
            }
            Check.due("accepted", n * 7, () -> host.request(number, 5));
            host.run(7);
        }
        String refused = "throws.IllegalArgumentException";
        for (int wrong : new int[] {-1, 4, Check.LEAST, Check.GREATEST}) {
            Check.idle(host, "priority " + wrong, refused, () -> host.submit(0, 0, 0, wrong, 0));
        }
        for (int wrong : new int[] {-1, 100001, Check.LEAST, Check.GREATEST}) {
            Check.idle(host, "limit " + wrong, refused, () -> host.submit(0, 0, 0, 0, wrong));
        }
    }

    private static void noTimeLimit() {
        DriverHost host = Check.loaded("drivers 1;command a pure time 50;delay 100 1000;");
        for (int n = 0; n < 50; n++) {
            host.submit(0, 0, 0, n == 49 ? 0 : 1, 0);
        }
        host.kill(0);
        for (int n = 0; n < 3; n++) {
            host.run(1000);
        }
        Check.due("limit 0 is no limit, not one of 0 ticks", 0, () -> host.total(3));
        Check.due("completed after 101 and 50 times 50 ticks", 101 + 2500 - 1, () -> host.request(49, 14));
    }

    private static void states() {
        DriverHost host = Check.loaded("drivers 1;command a again time 2;");
        host.submit(0, 0, 0, 0, 0);
        Check.due("queued", 0, () -> host.request(0, 6));
        host.run(1);
        Check.due("in flight", 1, () -> host.request(0, 6));
        host.kill(0);
        Check.due("in flight at a driver that is down", 1, () -> host.request(0, 6));
        host.submit(0, 0, 0, 0, 0);
        Check.due("queued at a driver that is down", 0, () -> host.request(1, 6));
        host.run(9);
        Check.due("completed", 2, () -> host.request(0, 6));
        host.submit(0, 0, 0, 0, 0);
        host.cancel(2);
        Check.due("failed", 3, () -> host.request(2, 6));
    }

    private static void failures() {
        Check.says("A completed request has a result; a failed one has a failure: 1 too late; 2 unknown outcome; 3"
                + " poisoned; 4 cancelled; 5 driver dead.");
        DriverHost host = Check.loaded("drivers 2;command a again time 3 result arg+1;command o once time 1;"
                + "delay 1 1;poison 2;streak 2;");
        host.submit(0, 0, 6, 0, 0);
        host.submit(0, 0, 6, 0, 1);
        host.run(3);
        Check.due("a result", 7, () -> host.request(0, 8));
        Check.due("no failure", 0, () -> host.request(0, 7));
        Check.due("too late", 1, () -> host.request(1, 7));
        Check.due("no result", 0, () -> host.request(1, 8));
        host.submit(0, 1, 6, 0, 0);
        host.plan(2, 2, 1);
        host.run(9);
        Check.due("unknown outcome", 2, () -> host.request(2, 7));
        host.submit(1, 0, 6, 0, 0);
        host.plan(3, 2, 9);
        host.run(9);
        Check.due("poisoned", 3, () -> host.request(3, 7));
        Check.due("no result, though its effect was done", 0, () -> host.request(3, 8));
        host.submit(0, 0, 6, 0, 0);
        host.cancel(4);
        Check.due("cancelled", 4, () -> host.request(4, 7));
        host.submit(1, 0, 6, 0, 0);
        host.kill(1);
        Check.due("driver dead", 5, () -> host.request(5, 7));
        Check.due("totals", 15, () -> host.total(2) * 10 + host.total(3));
    }

    private static void executionsAndCrashes() {
        Check.says("A request also has a number of executions (effects that were done), a number of crashes, and a"
                + " plan: a point (0 none, 1 before the effect, 2 after the effect) and a number of times.");
        for (int point = 0; point <= 2; point++) {
            for (int times : new int[] {0, 1, 2, 19}) {
                DriverHost host = Check.loaded("drivers 1;command a again time 1;delay 1 1;streak 20;poison 20;");
                host.submit(0, 0, 0, 0, 0);
                host.plan(0, point, times);
                host.run(200);
                int crashes = point == 0 ? 0 : times;
                int executions = point == 2 ? times + 1 : 1;
                String what = " with the plan " + point + ", " + times;
                Check.due("completed" + what, 2, () -> host.request(0, 6));
                Check.due("executions" + what, executions, () -> host.request(0, 9));
                Check.due("crashes" + what, crashes, () -> host.request(0, 10));
                Check.due("times left" + what, times - crashes, () -> host.request(0, 13));
            }
        }
    }

    private static void plans() {
        DriverHost host = Check.loaded("drivers 1;command a again time 2;delay 1 1;");
        host.submit(0, 0, 0, 0, 0);
        Check.due("no plan at first", 0, () -> host.request(0, 12) + host.request(0, 13));
        host.run(1);
        host.kill(0);
        Check.due("a crash from outside counts", 1, () -> host.request(0, 10));
        Check.due("and is no execution", 0, () -> host.request(0, 9));
        host.submit(0, 0, 0, 0, 0);
        Check.due("one in the queue has no crash", 0, () -> host.request(1, 10));
    }

    private static void nextRequest() {
        Check.says("The next request of a driver is its returned request if there is one (see restarts); otherwise, of"
                + " its queued requests, the one with the greatest priority, the one with the lowest number on a"
                + " tie.");
        DriverHost host = Check.loaded("drivers 2;command a pure time 1;");
        Check.due("none", -1, () -> host.nextRequest(0));
        int[] priorities = {0, 1, 3, 3, 2, 0, 1, 2};
        for (int priority : priorities) {
            host.submit(0, 0, 0, priority, 0);
        }
        host.submit(1, 0, 0, 3, 0);
        for (int next : new int[] {2, 3, 4, 7, 1, 6, 0, 5, -1}) {
            Check.due("the next one", next, () -> host.nextRequest(0));
            host.run(1);
            Check.due("it was begun and completed", next == -1 ? 5 : next, () -> lastCompleted(host));
        }
        Check.due("that of the other driver", -1, () -> host.nextRequest(1));
    }

    private static int lastCompleted(DriverHost host) {
        int last = -1;
        for (int n = 0; n < host.recordCount(); n++) {
            if (host.record(n, 1) == 2 && host.record(n, 2) == 0) {
                last = host.record(n, 3);
            }
        }
        return last;
    }

    private static void returnedFirst() {
        DriverHost host = Check.loaded("drivers 1;command a again time 3;delay 1 1;");
        host.submit(0, 0, 0, 0, 0);
        host.submit(0, 0, 0, 0, 0);
        host.run(3);
        host.run(1);
        Check.due("request 1 is in flight", 1, () -> host.inFlight(0));
        host.submit(0, 0, 0, 3, 0);
        host.kill(0);
        Check.due("one in flight is not the next", 2, () -> host.nextRequest(0));
        host.run(3);
        Check.due("the returned one goes before a greater priority", 1, () -> host.inFlight(0));
        host.run(2);
        Check.due("then the greatest priority", 2, () -> host.nextRequest(0));
        host.run(1);
        Check.due("is begun", 2, () -> host.inFlight(0));
    }

    /** In the tick of the restart another request is too late; the returned one stays the next all the same. */
    private static void returnedFirstThoughAnotherFails() {
        for (int late : new int[] {0, 2}) {
            DriverHost host = Check.loaded("drivers 1;command a again time 3;delay 1 1;");
            for (int n = 0; n < 4; n++) {
                host.submit(0, 0, 0, n == 1 ? 2 : 0, n == late ? 3 : 0);
            }
            host.run(1);
            Check.due("request 1 is in flight", 1, () -> host.inFlight(0));
            host.submit(0, 0, 0, 3, 0);
            host.kill(0);
            host.run(3);
            Check.due("the other one is too late", 1, () -> host.request(late, 7));
            Check.due("in the tick of the restart", 3, () -> host.request(late, 14));
            Check.due("the returned one is begun", 1, () -> host.inFlight(0));
            Check.due("the next one", 4, () -> host.nextRequest(0));
        }
    }

    private static void oneInFlight() {
        Check.says("At most one request of a driver is in flight.");
        DriverHost host = Check.loaded("drivers 2;command a again time 2;command o once time 1;");
        for (int n = 0; n < 12; n++) {
            host.submit(n % 2, n % 3 / 2, 0, n % 4, 0);
            host.plan(n, n % 3, 1);
        }
        for (int tick = 0; tick < 60; tick++) {
            host.run(1);
            for (int driver = 0; driver < 2; driver++) {
                int count = 0;
                int last = -1;
                for (int n = 0; n < 12; n++) {
                    if (host.request(n, 0) == driver && host.request(n, 6) == 1) {
                        count++;
                        last = n;
                    }
                }
                int asked = driver;
                int want = last;
                boolean one = count <= 1;
                Check.due("at most one after tick " + tick, true, () -> one);
                Check.due("inFlight after tick " + tick, want, () -> host.inFlight(asked));
            }
        }
    }
}
