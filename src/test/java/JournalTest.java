/** Promises 31 to 35, and section 6: the journal, the totals and the means. */
public final class JournalTest {
    private JournalTest() {
    }

    public static void main(String[] args) {
        promises31And32Records();
        promise31Latest200();
        promise31UndoBringsRecordsBack();
        promise33Total();
        promise34Availability();
        promise35MeanTime();
        promise35LongTimes();
        Check.close("JournalTest");
    }

    private static void promises31And32Records() {
        DriverHost host = Check.loaded("drivers 2;command a again time 1;every 1;delay 1 1;streak 1;");
        Check.due("recordCount", 0, host::recordCount);
        Check.missing("no record", () -> host.record(0, 0));
        host.submit(1, 0, 0, 0, 0);
        host.plan(0, 1, 1);
        host.run(3);
        host.submit(1, 0, 0, 0, 0);
        host.cancel(1);
        host.kill(1);
        int[][] records = {{0, 0, 1, 0}, {0, 1, 1, 0}, {0, 4, 1, -1}, {2, 5, 1, -1}, {2, 7, 1, 0}, {2, 1, 1, 0},
            {2, 2, 1, 0}, {2, 6, 1, -1}, {3, 0, 1, 1}, {3, 3, 1, 1}, {3, 4, 1, -1}, {3, 8, 1, -1}};
        Check.due("recordCount", records.length, host::recordCount);
        for (int n = 0; n < records.length; n++) {
            for (int what = 0; what < 4; what++) {
                int record = n;
                int asked = what;
                Check.due("record(" + n + ", " + what + ")", records[n][what], () -> host.record(record, asked));
            }
        }
        for (int wrong : new int[] {-1, records.length, 200, Integer.MAX_VALUE, Integer.MIN_VALUE}) {
            Check.missing("record " + wrong, () -> host.record(wrong, 0));
        }
        for (int wrong : new int[] {-1, 4, Integer.MAX_VALUE, Integer.MIN_VALUE}) {
            Check.missing("what " + wrong, () -> host.record(0, wrong));
        }
    }

    private static void promise31Latest200() {
        DriverHost host = new DriverHost();
        for (int n = 0; n < 199; n++) {
            host.takeSnapshot(0);
            host.run(1);
        }
        Check.due("recordCount", 199, host::recordCount);
        Check.due("the oldest", 0, () -> host.record(0, 0));
        host.takeSnapshot(0);
        Check.due("recordCount", 200, host::recordCount);
        Check.due("the oldest", 0, () -> host.record(0, 0));
        Check.due("the newest", 199, () -> host.record(199, 0));
        host.run(1);
        host.takeSnapshot(0);
        Check.due("recordCount", 200, host::recordCount);
        Check.due("the oldest", 1, () -> host.record(0, 0));
        Check.due("the newest", 200, () -> host.record(199, 0));
        Check.missing("record 200", () -> host.record(200, 0));
        for (int n = 0; n < 30; n++) {
            host.run(1);
            host.takeSnapshot(0);
        }
        Check.due("the oldest", 31, () -> host.record(0, 0));
        Check.due("the newest", 230, () -> host.record(199, 0));
        Check.due("the total counts all", 231, () -> host.total(6));
    }

    private static void promise31UndoBringsRecordsBack() {
        DriverHost host = Check.loaded("drivers 1;command a pure time 1;every 1;");
        for (int n = 0; n < 70; n++) {
            host.submit(0, 0, 0, 0, 0);
        }
        String before = Check.all(host);
        host.run(1000);
        Check.due("recordCount", 200, host::recordCount);
        Check.due("80 of 280 are gone: the acceptances, three threes and a beginning", 2, () -> host.record(0, 1));
        Check.due("then the snapshot", 6, () -> host.record(1, 1));
        host.undo();
        Check.due("all is as before", before, () -> Check.all(host));
        Check.due("recordCount", 70, host::recordCount);
    }

    private static void promise33Total() {
        DriverHost host = Check.loaded("drivers 2;command a again time 1;command o once time 1;delay 1 1;streak 2;");
        for (int wrong : new int[] {-1, 9, Integer.MAX_VALUE, Integer.MIN_VALUE}) {
            Check.due("total " + wrong, -1, () -> host.total(wrong));
        }
        host.submit(0, 0, 0, 0, 0);
        host.submit(1, 0, 0, 0, 0);
        host.submit(1, 1, 0, 0, 0);
        host.plan(1, 1, 1);
        host.plan(2, 1, 1);
        host.run(10);
        host.kill(1);
        host.takeSnapshot(0);
        int[] totals = {3, 4, 2, 1, 3, 2, 1, 1, 1};
        for (int what = 0; what < 9; what++) {
            int asked = what;
            Check.due("total " + what, totals[what], () -> host.total(asked));
        }
        host.undo();
        Check.due("undone", 0, () -> host.total(6));
    }

    private static void promise34Availability() {
        DriverHost host = Check.loaded("drivers 3;delay 1 1;");
        Check.due("no tick passed", 1.0, () -> host.availability(2));
        host.kill(2);
        Check.due("no tick passed", 1.0, () -> host.availability(2));
        host.run(2);
        Check.due("down in both", 0.0, () -> host.availability(2));
        Check.due("up in both", 1.0, () -> host.availability(0));
        host.run(1);
        Check.due("up at the end of the third", 1.0 / 3, () -> host.availability(2));
        host.run(4);
        Check.due("five of seven", 5.0 / 7, () -> host.availability(2));
        host.undo();
        Check.due("undone", 1.0 / 3, () -> host.availability(2));
        DriverHost other = Check.loaded("drivers 1;command a pure time 2;streak 0;");
        other.submit(0, 0, 0, 0, 0);
        other.plan(0, 1, 1);
        other.run(3);
        Check.due("a tick in which it crashes does not count", 1.0 / 3, () -> other.availability(0));
        Check.missing("driver 1", () -> other.availability(1));
    }

    private static void promise35MeanTime() {
        DriverHost host = Check.loaded("drivers 2;command a pure time 1;");
        Check.due("none", 0f, () -> host.meanTime(0));
        host.submit(0, 0, 0, 0, 0);
        host.submit(0, 0, 0, 0, 0);
        host.submit(0, 0, 0, 0, 0);
        host.submit(0, 0, 0, 0, 1);
        host.submit(1, 0, 0, 0, 0);
        host.run(1);
        Check.due("the first takes no time", 0f, () -> host.meanTime(0));
        host.run(2);
        Check.due("0, 1 and 2", 1f, () -> host.meanTime(0));
        host.submit(0, 0, 0, 0, 0);
        host.kill(0);
        host.run(10);
        Check.due("0, 1, 2 and 3", 1.5f, () -> host.meanTime(0));
        host.submit(0, 0, 0, 0, 0);
        host.submit(0, 0, 0, 0, 0);
        host.run(3);
        Check.due("0, 1, 2, 3, 0 and 1", 7f / 6, () -> host.meanTime(0));
        Check.due("the other driver", 0f, () -> host.meanTime(1));
        Check.missing("driver 2", () -> host.meanTime(2));
        host.undo();
        Check.due("undone", 1.5f, () -> host.meanTime(0));
    }

    private static void promise35LongTimes() {
        DriverHost host = Check.loaded("drivers 1;command a pure time 50;command b pure time 1;");
        for (int n = 0; n < 7; n++) {
            host.submit(0, n == 0 ? 1 : 0, 0, 0, 0);
        }
        host.run(1000);
        Check.due("0, 50, .. 300", 150f, () -> host.meanTime(0));
        host.submit(0, 1, 0, 0, 0);
        host.replace(0);
        host.run(2);
        Check.due("1051 in eight", 1051f / 8, () -> host.meanTime(0));
    }
}
