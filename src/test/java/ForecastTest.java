/** Promises 36 to 38: what would happen. */
public final class ForecastTest {
    private ForecastTest() {
    }

    public static void main(String[] args) {
        promise36Forecast();
        promise36Edges();
        promise36LastClock();
        promise37BestDelay();
        promise37Ticks();
        promise37GreatestDelay();
        forecastsAreApart();
        promise38Decision();
        promise38WhateverTheCrashes();
        Check.close("ForecastTest");
    }

    private static void promise36Forecast() {
        DriverHost host = Check.loaded("drivers 2;command a again time 3 set 0=reg 0+1;command b once time 1;");
        Check.missing("no request", () -> host.forecast(0));
        host.submit(0, 0, 0, 0, 0);
        host.submit(0, 0, 0, 0, 5);
        host.submit(0, 1, 0, 0, 3);
        host.submit(1, 1, 0, 0, 0);
        host.plan(3, 2, 1);
        String before = Check.all(host);
        Check.due("completed", 3, () -> host.forecast(0));
        Check.due("completed after it", 6, () -> host.forecast(1));
        Check.due("too late", 4, () -> host.forecast(2));
        Check.due("unknown outcome", 4, () -> host.forecast(3));
        Check.due("nothing changed", before, () -> Check.all(host));
        Check.due("no operation", 5, host::undoCount);
        Check.missing("request 4", () -> host.forecast(4));
        Check.missing("request -1", () -> host.forecast(-1));
        for (int n = 0; n < 4; n++) {
            int request = n;
            int ticks = host.forecast(n);
            host.run(ticks - 1);
            Check.due("not before", 1, () -> host.request(request, 6) / 2 + 1);
            host.run(1);
            Check.due("over", 1, () -> host.request(request, 6) / 2);
            Check.due("over now", 0, () -> host.forecast(request));
            host.undo();
            host.undo();
        }
    }

    private static void promise36Edges() {
        DriverHost host = Check.loaded("drivers 1;command a again time 50;");
        for (int n = 0; n < 30; n++) {
            host.submit(0, 0, 0, 0, 0);
        }
        Check.due("1000 ticks", 1000, () -> host.forecast(19));
        Check.due("more than 1000 ticks", -1, () -> host.forecast(20));
        host.cancel(5);
        Check.due("failed now", 0, () -> host.forecast(5));
        Check.due("one less before it", 1000, () -> host.forecast(20));
        Check.due("still too many", -1, () -> host.forecast(21));
        host.submit(0, 0, 0, 0, 999);
        host.submit(0, 0, 0, 0, 1000);
        Check.due("too late in the last tick", 1000, () -> host.forecast(30));
        Check.due("too late one tick later", -1, () -> host.forecast(31));
    }

    private static void promise36LastClock() {
        DriverHost host = Check.loaded("drivers 1;command a again time 50;");
        for (int n = 0; n < 999; n++) {
            host.run(1000);
        }
        host.run(950);
        host.submit(0, 0, 0, 0, 0);
        host.submit(0, 0, 0, 0, 0);
        Check.due("the last clock is reached", 50, () -> host.forecast(0));
        Check.due("the last clock would be exceeded", -1, () -> host.forecast(1));
        host.run(1);
        host.cancel(1);
        Check.due("over now", 0, () -> host.forecast(1));
        host.replace(0);
        Check.due("reached", 49, () -> host.forecast(0));
    }

    private static void promise37BestDelay() {
        DriverHost host = Check.loaded("drivers 1;command a again time 1;delay 7 100;calm 1000;");
        host.submit(0, 0, 0, 0, 0);
        host.plan(0, 1, 1);
        host.submit(0, 0, 0, 0, 6);
        String before = Check.all(host);
        Check.due("the second is in time with 1 to 3 only", 1, () -> host.bestDelay(50));
        Check.due("nothing changed", before, () -> Check.all(host));
        Check.due("no operation", 3, host::undoCount);
        Check.due("the first delay stays", 8, () -> {
            host.run(1);
            return host.downUntil(0);
        });
        DriverHost other = Check.loaded("drivers 1;command a once time 1;delay 9 100;");
        other.submit(0, 0, 0, 0, 0);
        other.kill(0);
        Check.due("the smallest one on a tie", 1, () -> other.bestDelay(200));
    }

    private static void promise37Ticks() {
        DriverHost host = new DriverHost();
        for (int wrong : new int[] {-1, 201, Integer.MAX_VALUE, Integer.MIN_VALUE}) {
            Check.refused("bestDelay " + wrong, () -> host.bestDelay(wrong));
        }
        Check.due("bestDelay 0", 1, () -> host.bestDelay(0));
        Check.due("bestDelay 200", 1, () -> host.bestDelay(200));
    }

    /**
     * A longer first delay is better here. The first request crashes at 0 and completes at 1 plus the delay; if the
     * second one is not too late in the tick after that, its crash is the driver's death, and the third one is lost.
     */
    private static void promise37GreatestDelay() {
        String text = "drivers 1;command a again time 1;streak 1;calm 1000;";
        for (int greatest : new int[] {30, 16, 12, 9, 8, 6, 3}) {
            DriverHost host = Check.loaded(text + "delay 2 " + greatest + ";");
            host.submit(0, 0, 0, 3, 0);
            host.plan(0, 1, 1);
            host.submit(0, 0, 0, 2, 8);
            host.plan(1, 1, 1);
            host.submit(0, 0, 0, 0, 0);
            int want = greatest >= 6 ? 6 : 1;
            Check.due("bestDelay with " + greatest, want, () -> host.bestDelay(60));
        }
        for (int limit : new int[] {17, 18, 19, 30}) {
            int want = limit <= 18 ? limit - 2 : 1;
            DriverHost host = Check.loaded(text + "delay 2 40;");
            host.submit(0, 0, 0, 3, 0);
            host.plan(0, 1, 1);
            host.submit(0, 0, 0, 2, limit);
            host.plan(1, 1, 1);
            host.submit(0, 0, 0, 0, 0);
            Check.due("at most 16 is tried, limit " + limit, want, () -> host.bestDelay(60));
        }
    }

    /** No trial leaves a mark in the next one, neither its first delay nor the text of before. */
    private static void forecastsAreApart() {
        DriverHost host = Check.loaded("drivers 1;command a again time 1;delay 2 40;");
        host.submit(0, 0, 0, 0, 0);
        host.plan(0, 1, 1);
        Check.due("forecast", 4, () -> host.forecast(0));
        host.bestDelay(50);
        Check.due("forecast after bestDelay", 4, () -> host.forecast(0));
        Check.load(host, "drivers 2;command a again time 7;delay 3 40;");
        host.submit(1, 0, 0, 0, 0);
        host.plan(0, 1, 1);
        Check.due("forecast after load", 7 + 3 + 7, () -> host.forecast(0));
        Check.due("the forecast is right", 1, () -> host.run(17));
        Check.due("over at the last tick", 16, () -> host.request(0, 14));
    }

    private static void promise38Decision() {
        DriverHost host = Check.loaded("drivers 4;command p pure time 9;command a again time 9;"
                + "command o once time 9;command c check reg 3=arg time 9 set 3=arg;");
        Check.missing("no request", () -> host.decision(0));
        for (int n = 0; n < 4; n++) {
            int request = n;
            host.submit(n, n, 6, 0, 0);
            Check.due("queued", -1, () -> host.decision(request));
        }
        Check.missing("request 4", () -> host.decision(4));
        Check.missing("request -1", () -> host.decision(-1));
        host.run(1);
        int[] decisions = {0, 0, 2, 0};
        for (int n = 0; n < 4; n++) {
            int request = n;
            Check.due("in flight", decisions[n], () -> host.decision(request));
        }
        host.poke(3, 3, 6);
        Check.due("the condition holds", 1, () -> host.decision(3));
        host.kill(3);
        Check.due("also while it is down", 1, () -> host.decision(3));
        host.poke(3, 3, 7);
        Check.due("with the registers as they are", 0, () -> host.decision(3));
        host.run(20);
        for (int n = 0; n < 4; n++) {
            int request = n;
            Check.due("completed", -1, () -> host.decision(request));
        }
        host.submit(0, 0, 0, 0, 0);
        host.cancel(4);
        Check.due("failed", -1, () -> host.decision(4));
    }

    private static void promise38WhateverTheCrashes() {
        DriverHost host = Check.loaded("drivers 1;command c check arg=1 time 9;poison 1;streak 0;");
        host.submit(0, 0, 1, 0, 0);
        host.run(1);
        Check.due("neither poisoned nor dead", 1, () -> host.decision(0));
        Check.due("no operation", 2, host::undoCount);
        Check.due("though it would be", 2, () -> host.kill(0));
    }
}
