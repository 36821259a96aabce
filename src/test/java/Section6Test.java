/** Section 6 of the document, sentence by sentence: the journal. */
public final class Section6Test {
    private Section6Test() {
    }

    public static void main(String[] args) {
        everyEvent();
        clocksOfOperations();
        orderOfACrash();
        orderOfACompletion();
        orderOfARestart();
        latestRecords();
        latestRecordsOfOneRun();
        latestRecordsWrapTwice();
        Check.close("Section6Test");
    }

    /** The records from one on, each as its event, clock, driver and request. */
    private static String story(DriverHost host, int from) {
        StringBuilder told = new StringBuilder();
        for (int n = from; n < host.recordCount(); n++) {
            told.append(n == from ? "" : " ").append(host.record(n, 1)).append('@').append(host.record(n, 0))
                    .append('d').append(host.record(n, 2)).append('r').append(host.record(n, 3));
        }
        return told.toString();
    }

    private static void everyEvent() {
        Check.says("Each of these events is a record with the present clock (in a tick, the clock before it increases):"
                + " 0 a request is accepted; 1 begun; 2 completed; 3 failed; 4 a driver crashes; 5 a driver restarts; 6"
                + " a snapshot is taken; 7 a request is queued again; 8 a driver dies.");
        DriverHost host = Check.loaded("drivers 4;command a again time 2;delay 1 1;streak 1;every 1;calm 1000;");
        Check.due("none at first", "", () -> story(host, 0));
        host.run(5);
        Check.due("a tick in which nothing happens has none", "", () -> story(host, 0));
        host.submit(3, 0, 0, 0, 0);
        host.plan(0, 1, 1);
        Check.due("plan and submit", "0@5d3r0", () -> story(host, 0));
        host.run(1);
        Check.due("begun", "1@5d3r0", () -> story(host, 1));
        host.run(1);
        Check.due("crashes", "4@6d3r-1", () -> story(host, 2));
        host.run(2);
        Check.due("restarts, queued again, begun", "5@8d3r-1 7@8d3r0 1@8d3r0", () -> story(host, 3));
        host.run(1);
        Check.due("completed, a snapshot is taken", "2@9d3r0 6@9d3r-1", () -> story(host, 6));
        host.kill(3);
        Check.due("crashes, dies", "4@10d3r-1 8@10d3r-1", () -> story(host, 8));
        host.submit(2, 0, 0, 0, 0);
        host.cancel(1);
        Check.due("accepted, failed", "0@10d2r1 3@10d2r1", () -> story(host, 10));
        host.poke(2, 0, 1);
        Check.due("poke is no event", 12, host::recordCount);
        Check.says("A record has a driver and a request (NONE for 4, 5, 6 and 8).");
        int[] events = new int[9];
        for (int n = 0; n < host.recordCount(); n++) {
            int record = n;
            int event = host.record(n, 1);
            events[event]++;
            boolean none = event == 4 || event == 5 || event == 6 || event == 8;
            Check.due("request of event " + event, none, () -> host.record(record, 3) == -1);
            Check.due("driver of event " + event, n < 10 ? 3 : 2, () -> host.record(record, 2));
        }
        for (int event = 0; event < 9; event++) {
            int asked = event;
            Check.due("total of event " + event, events[event], () -> host.total(asked));
            Check.due("event " + event + " has occurred", true, () -> events[asked] > 0);
        }
    }

    private static void clocksOfOperations() {
        DriverHost host = Check.loaded("drivers 2;command a again time 1;");
        host.run(1000);
        host.takeSnapshot(1);
        host.submit(1, 0, 0, 0, 0);
        host.replace(1);
        Check.due("outside of a tick, the clock", "6@1000d1r-1 0@1000d1r0 6@1000d1r-1", () -> story(host, 0));
        host.run(2);
        Check.due("in a tick, before it increases", "5@1001d1r-1 1@1001d1r0 2@1001d1r0", () -> story(host, 3));
    }

    private static void orderOfACrash() {
        Check.says("The records are appended in the order of the events; a crash comes before the failures and the"
                + " death that it causes, the death before the failures with 5; a completion comes before the snapshot"
                + " that follows; a restart comes before the decision on the request in flight.");
        for (boolean killed : new boolean[] {true, false}) {
            DriverHost host = Check.loaded("drivers 1;command a again time 2;streak 0;poison 2;");
            for (int n = 0; n < 3; n++) {
                host.submit(0, 0, 0, n == 1 ? 3 : 0, 0);
            }
            host.plan(1, 1, 1);
            host.run(1);
            crash(host, killed);
            Check.due("crash, death, failures with 5", "4@1d0r-1 8@1d0r-1 3@1d0r0 3@1d0r1 3@1d0r2",
                    () -> story(host, 4));
            DriverHost poisoned = Check.loaded("drivers 1;command a again time 2;streak 0;poison 1;");
            for (int n = 0; n < 3; n++) {
                poisoned.submit(0, 0, 0, n == 1 ? 3 : 0, 0);
            }
            poisoned.plan(1, 2, 1);
            poisoned.run(1);
            crash(poisoned, killed);
            Check.due("crash, failure with 3, death, failures with 5",
                    "4@1d0r-1 3@1d0r1 8@1d0r-1 3@1d0r0 3@1d0r2", () -> story(poisoned, 4));
        }
    }

    private static void crash(DriverHost host, boolean killed) {
        if (killed) {
            host.kill(0);
        } else {
            host.run(1);
        }
    }

    private static void orderOfACompletion() {
        DriverHost host = Check.loaded("drivers 1;command a again time 1;every 2;");
        for (int n = 0; n < 4; n++) {
            host.submit(0, 0, 0, 0, 0);
        }
        host.run(4);
        Check.due("completion, snapshot", "1@0d0r0 2@0d0r0 1@1d0r1 2@1d0r1 6@1d0r-1 1@2d0r2 2@2d0r2 1@3d0r3 2@3d0r3"
                + " 6@3d0r-1", () -> story(host, 4));
    }

    private static void orderOfARestart() {
        String[] classes = {"pure", "once", "check 1=2", "check 1=1"};
        String[] decisions = {"7@2d0r0 1@2d0r0 2@2d0r0 6@2d0r-1", "3@2d0r0", "7@2d0r0 1@2d0r0 2@2d0r0 6@2d0r-1",
            "2@2d0r0 6@2d0r-1"};
        for (int n = 0; n < classes.length; n++) {
            String decision = decisions[n];
            DriverHost host = Check.loaded("drivers 1;command a " + classes[n] + " time 1;every 1;delay 1 1;");
            host.submit(0, 0, 0, 0, 0);
            host.plan(0, 1, 1);
            host.run(3);
            Check.due("restart and decision of " + classes[n], "5@2d0r-1 " + decision, () -> story(host, 3));
        }
    }

    private static void latestRecords() {
        Check.says("The latest 200 records are kept.");
        DriverHost host = Check.loaded("drivers 4;");
        for (int made = 1; made <= 405; made++) {
            host.takeSnapshot(made % 4);
            if (made == 1 || made >= 199 && made <= 203 || made >= 399 && made <= 402 || made == 405) {
                recordsAre(host, made);
            }
            host.run(1);
        }
    }

    private static void recordsAre(DriverHost host, int made) {
        int size = Math.min(made, 200);
        Check.due("recordCount after " + made, size, host::recordCount);
        Check.due("the total after " + made, made, () -> host.total(6));
        for (int index : new int[] {0, 1, size / 2, size - 2, size - 1}) {
            if (index >= 0 && index < size) {
                int clock = made - size + index;
                Check.due("record " + index + " after " + made, clock, () -> host.record(index, 0));
                Check.due("its driver", (clock + 1) % 4, () -> host.record(index, 2));
            }
        }
        for (int index : new int[] {-1, size, 200, 201, Check.LEAST, Check.GREATEST}) {
            Check.missing("record " + index + " after " + made, () -> host.record(index, 0));
        }
    }

    private static void latestRecordsOfOneRun() {
        DriverHost host = Check.loaded("drivers 1;command a again time 1;every 1;");
        for (int n = 0; n < 100; n++) {
            host.submit(0, 0, 0, 0, 0);
        }
        host.run(33);
        Check.due("100 and 33 times 3", 199, host::recordCount);
        Check.due("the oldest", 0, () -> host.record(0, 3));
        host.run(67);
        Check.due("400 were made", 200, host::recordCount);
        Check.due("the oldest is the completion of request 33", 33, () -> host.record(0, 3));
        Check.due("the oldest is the completion of request 33", 2, () -> host.record(0, 1));
        Check.due("the newest is a snapshot", 6, () -> host.record(199, 1));
        Check.due("at 99", 99, () -> host.record(199, 0));
        host.undo();
        Check.due("undone", 199, host::recordCount);
        Check.due("the oldest", 0, () -> host.record(0, 3) + host.record(0, 1));
        host.undo();
        Check.due("undone", 100, host::recordCount);
    }

    private static void latestRecordsWrapTwice() {
        DriverHost host = Check.loaded("drivers 1;command a pure time 1;delay 1 1;calm 1;every 1;");
        for (int n = 0; n < 450; n++) {
            host.takeSnapshot(0);
        }
        host.submit(0, 0, 0, 0, 0);
        host.undo();
        host.submit(0, 0, 0, 0, 0);
        Check.due("the record of an undone operation is gone", 6, () -> host.record(198, 1));
        Check.due("the newest", 0, () -> host.record(199, 1));
        Check.due("totals", 451, () -> host.total(0) + host.total(6));
    }
}
