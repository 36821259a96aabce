/** Section 4 of the document, sentence by sentence: one tick. */
public final class Section4Test {
    private Section4Test() {
    }

    public static void main(String[] args) {
        clock();
        driversInAscendingOrder();
        stepARestart();
        stepBTimeLimit();
        stepBWhoFails();
        stepBGreatestLimit();
        stepCBegin();
        stepDRemainingTime();
        stepDPlans();
        stepDPlanUsedUp();
        stepECalmTime();
        stepENotBefore();
        stepEAfterAReplacement();
        completing();
        snapshotInterval();
        Check.close("Section4Test");
    }

    private static void clock() {
        Check.says("The clock starts at 0.");
        Check.due("a new object", 0, () -> new DriverHost().clock());
        DriverHost host = Check.loaded("drivers 1;");
        Check.due("a new text", 0, host::clock);
        Check.says("Then the clock increases by 1.");
        host.run(0);
        Check.due("no tick", 0, host::clock);
        host.run(1);
        Check.due("one tick", 1, host::clock);
        host.run(999);
        Check.due("a thousand ticks", 1000, host::clock);
        host.kill(0);
        Check.due("a crash from outside takes no tick", 1000, host::clock);
    }

    private static String story(DriverHost host, int from) {
        StringBuilder told = new StringBuilder();
        for (int n = from; n < host.recordCount(); n++) {
            told.append(n == from ? "" : " ").append(host.record(n, 1)).append('@').append(host.record(n, 0))
                    .append('d').append(host.record(n, 2));
        }
        return told.toString();
    }

    private static void driversInAscendingOrder() {
        Check.says("One tick consists of these steps; drivers are taken in ascending order, each one with all steps"
                + " before the next one:");
        DriverHost host = Check.loaded("drivers 3;command a again time 1;command b again time 50;delay 1 1;every 1;");
        host.submit(2, 1, 0, 0, 0);
        host.submit(0, 1, 0, 0, 0);
        host.run(1);
        host.submit(2, 0, 0, 0, 2);
        host.submit(0, 0, 0, 0, 2);
        host.submit(1, 0, 0, 0, 0);
        host.kill(2);
        host.kill(0);
        int from = host.recordCount();
        host.run(3);
        Check.due("records", "1@1d1 2@1d1 6@1d1 5@3d0 7@3d0 3@3d0 1@3d0 5@3d2 7@3d2 3@3d2 1@3d2",
                () -> story(host, from));
    }

    private static void stepARestart() {
        Check.says("(a) If the driver is down and the clock has reached the end of its down time, it restarts (section"
                + " 5).");
        for (int delay : new int[] {1, 2, 100}) {
            DriverHost host = Check.loaded("drivers 1;delay " + delay + " 1000;");
            host.run(5);
            host.kill(0);
            Check.due("downUntil", 6 + delay, () -> host.downUntil(0));
            host.run(delay + 1);
            Check.due("the clock has reached the end", 6 + delay, host::clock);
            Check.due("but no tick has begun there", 1, () -> host.driverState(0));
            host.run(1);
            Check.due("restarted", 0, () -> host.driverState(0));
            Check.due("at its end", 6 + delay, () -> host.record(host.recordCount() - 1, 0));
            Check.due("once", 1, () -> host.total(5));
        }
        for (int handover : new int[] {1, 50}) {
            DriverHost host = Check.loaded("drivers 1;handover " + handover + ";");
            host.run(5);
            host.replace(0);
            host.run(handover);
            Check.due("still down", 1, () -> host.driverState(0));
            host.run(1);
            Check.due("restarted", 5 + handover, () -> host.record(host.recordCount() - 1, 0));
        }
        DriverHost dead = Check.loaded("drivers 1;streak 0;");
        dead.kill(0);
        dead.run(1000);
        Check.due("a dead one never restarts", 0, () -> dead.total(5));
    }

    private static void stepBTimeLimit() {
        Check.says("(b) If the driver is not dead, each of its queued requests with a time limit for which the clock"
                + " minus the clock of its acceptance is at least the time limit fails with 1, in ascending order"
                + " (also the returned one).");
        for (int limit : new int[] {1, 2, 30, 48}) {
            for (int accepted : new int[] {0, 3}) {
                DriverHost host = Check.loaded("drivers 1;command a again time 50;command b again time 1;");
                host.run(accepted);
                host.submit(0, 0, 0, 1, 0);
                host.submit(0, 1, 0, 0, limit);
                host.submit(0, 1, 0, 0, 0);
                host.run(limit);
                Check.due("the tick before", 0, () -> host.request(1, 6));
                host.run(1);
                Check.due("its tick", 1, () -> host.request(1, 7));
                Check.due("its clock", accepted + limit, () -> host.request(1, 14));
                Check.due("one without a limit", 0, () -> host.request(2, 6));
                Check.due("the one in flight", 1, () -> host.request(0, 6));
            }
        }
        DriverHost last = Check.loaded("drivers 1;command a again time 5;command b again time 1;");
        last.submit(0, 0, 0, 1, 0);
        last.submit(0, 1, 0, 0, 5);
        last.submit(0, 1, 0, 0, 6);
        last.run(7);
        Check.due("with the limit 5 it fails before it could be begun at 5", 1, () -> last.request(1, 7));
        Check.due("with the limit 6 it is begun at 5", 2, () -> last.request(2, 6));
    }

    private static void stepBWhoFails() {
        DriverHost down = Check.loaded("drivers 1;command a again time 3;delay 9 9;");
        down.submit(0, 0, 0, 0, 0);
        down.submit(0, 0, 0, 0, 4);
        down.submit(0, 0, 0, 3, 4);
        down.submit(0, 0, 0, 1, 4);
        down.submit(0, 0, 0, 0, 5);
        down.run(1);
        down.kill(0);
        int from = down.recordCount();
        down.run(3);
        Check.due("none before its clock", from, down::recordCount);
        Check.due("the one with the greatest priority is in flight", 2, () -> down.inFlight(0));
        down.run(2);
        Check.due("while it is down", "3@4d0 3@4d0 3@5d0", () -> story(down, from));
        Check.due("in ascending order", 1, () -> down.record(from, 3));
        Check.due("in ascending order", 3, () -> down.record(from + 1, 3));
        Check.due("then the next limit", 4, () -> down.record(from + 2, 3));
        Check.due("the one in flight is not failed", 1, () -> down.request(2, 6));
        down.run(6);
        Check.due("but when it has returned", 1, () -> down.request(2, 7));
        Check.due("in the tick of its return", 11, () -> down.request(2, 14));
        DriverHost returned = Check.loaded("drivers 1;command a again time 3;delay 9 9;");
        returned.submit(0, 0, 0, 0, 12);
        returned.run(1);
        returned.kill(0);
        returned.run(20);
        Check.due("returned at 11 with the limit 12", 2, () -> returned.request(0, 6));
        DriverHost late = Check.loaded("drivers 1;command a again time 3;delay 9 9;");
        late.submit(0, 0, 0, 0, 11);
        late.run(1);
        late.kill(0);
        late.run(20);
        Check.due("returned at 11 with the limit 11", 1, () -> late.request(0, 7));
        Check.due("it was not begun again", 1, () -> late.total(1));
    }

    /** Crash after crash with a delay of 1000 lets enough ticks pass while a request waits. */
    private static void stepBGreatestLimit() {
        DriverHost host = Check.loaded("drivers 1;command f again time 50;delay 100 1000;streak 20;calm 50;poison 20;");
        host.submit(0, 0, 0, 0, 100000);
        host.submit(0, 0, 0, 0, 99999);
        while (host.clock() < 99999) {
            if (host.queued(0) < 3) {
                host.submit(0, 0, 0, 3, 0);
            }
            if (host.driverState(0) == 0 && host.inFlight(0) > 1 && host.streak(0) < 20) {
                host.kill(0);
            }
            int wait = host.driverState(0) == 1 ? host.downUntil(0) + 1 - host.clock() : 1;
            host.run(Math.min(Math.min(wait, 1000), 99999 - host.clock()));
        }
        Check.due("both wait", 0, () -> host.request(0, 6) + host.request(1, 6));
        host.run(1);
        Check.due("99999 ticks after the acceptance", 99999, () -> host.request(1, 14));
        Check.due("too late", 1, () -> host.request(1, 7));
        Check.due("one tick is left", 0, () -> host.request(0, 6));
        host.run(1);
        Check.due("100000 ticks after the acceptance", 100000, () -> host.request(0, 14));
        Check.due("too late", 1, () -> host.request(0, 7));
    }

    private static void stepCBegin() {
        Check.says("(c) If the driver is running and no request is in flight, and there is a next request, it is"
                + " begun: it is in flight with the time of its command as its remaining time.");
        for (int time : new int[] {2, 50}) {
            DriverHost host = Check.loaded("drivers 1;command a again time " + time + ";delay 1 1;");
            host.run(1);
            Check.due("no request, nothing begun", 0, () -> host.total(1));
            host.submit(0, 0, 0, 0, 0);
            host.submit(0, 0, 0, 0, 0);
            Check.due("not before a tick", 0, () -> host.total(1));
            host.run(1);
            Check.due("begun", 1, () -> host.request(0, 6));
            Check.due("the tick itself has taken one", time - 1, () -> host.request(0, 11));
            Check.due("only one is begun", 1, () -> host.total(1));
            host.kill(0);
            host.submit(0, 0, 0, 3, 0);
            host.run(2);
            Check.due("none while it is down", 1, () -> host.total(1));
            host.run(1);
            Check.due("begun in the tick of the restart", 2, () -> host.total(1));
            Check.due("with its whole time", time - 1, () -> host.request(0, 11));
        }
    }

    private static void stepDRemainingTime() {
        Check.says("(d) If a request is in flight at a running driver, its remaining time decreases by 1.");
        DriverHost host = Check.loaded("drivers 1;command a again time 50;delay 3 3;");
        host.submit(0, 0, 0, 0, 0);
        for (int left = 49; left > 0; left--) {
            int want = left;
            host.run(1);
            Check.due("remaining time", want, () -> host.request(0, 11));
            Check.due("no effect yet", 0, () -> host.request(0, 9));
        }
        host.run(1);
        Check.due("the effect is done in tick 50", 1, () -> host.request(0, 9));
        Check.due("and the request completed", 49, () -> host.request(0, 14));
        DriverHost other = Check.loaded("drivers 1;command a again time 3;delay 3 3;");
        other.submit(0, 0, 0, 0, 0);
        other.run(2);
        other.kill(0);
        other.run(4);
        Check.due("not at a driver that is down", 0, () -> other.request(0, 9));
        other.run(2);
        Check.due("two of three ticks after the restart", 1, () -> other.request(0, 11));
        other.run(1);
        Check.due("three of three", 2, () -> other.request(0, 6));
    }

    private static void stepDPlans() {
        Check.says("If it is 0 then: if its plan has the point 1 and times left, the times decrease by 1, and the"
                + " driver crashes.");
        DriverHost host = Check.loaded("drivers 2;command a again time 2 set 0=reg 0+1 keep 0=1;delay 1 1;poison 20;");
        host.submit(0, 0, 0, 0, 0);
        host.submit(1, 0, 0, 0, 0);
        host.plan(0, 1, 20);
        host.plan(1, 2, 20);
        host.run(1);
        Check.due("no crash before the time is over", 0, () -> host.total(4));
        host.run(1);
        Check.due("crash", 1, () -> host.driverState(0));
        Check.due("at the clock 1", 1 + 1 + 1, () -> host.downUntil(0));
        Check.due("times", 19, () -> host.request(0, 13));
        Check.due("no effect", 0, () -> host.register(0, 0) + host.request(0, 9));
        Check.says("Otherwise the effect is done (one execution more); then, if its plan has the point 2 and times"
                + " left, the times decrease by 1, and the driver crashes; otherwise the request is completed.");
        Check.due("crash", 1, () -> host.driverState(1));
        Check.due("times", 19, () -> host.request(1, 13));
        Check.due("the effect", 1, () -> host.register(1, 0));
        Check.due("executions", 1, () -> host.request(1, 9));
        Check.due("not completed", 1, () -> host.request(1, 6));
        Check.due("nothing kept", 0, () -> host.logSize(1));
    }

    private static void stepDPlanUsedUp() {
        for (int point : new int[] {1, 2}) {
            for (int times : new int[] {0, 1}) {
                DriverHost host = Check.loaded("drivers 1;command a again time 1;delay 1 1;");
                host.submit(0, 0, 0, 0, 0);
                host.plan(0, point, times);
                String what = " with the plan " + point + ", " + times;
                Check.due("in the first tick" + what, 1 - times, () -> host.run(1));
                Check.due("crashes" + what, times, () -> host.total(4));
                host.run(3);
                Check.due("crashes later" + what, times, () -> host.total(4));
                Check.due("completed" + what, 2, () -> host.request(0, 6));
                Check.due("times left" + what, 0, () -> host.request(0, 13));
                Check.due("the point stays" + what, point, () -> host.request(0, 12));
            }
        }
    }

    private static void stepECalmTime() {
        Check.says("(e) If the driver is running and has been running for the calm time, its crash streak becomes 0"
                + " (the clock plus 1 minus the clock at which it was started last is at least the calm time; at first"
                + " it was started at 0).");
        for (int calm : new int[] {1, 2, 20, 999, 1000}) {
            DriverHost host = Check.loaded("drivers 1;delay 1 1;calm " + calm + ";");
            host.run(7);
            host.kill(0);
            host.run(2);
            Check.due("down, calm " + calm, 1, () -> host.streak(0));
            host.run(calm - 1);
            Check.due("one tick before, calm " + calm, 1, () -> host.streak(0));
            host.run(1);
            Check.due("calm " + calm, 0, () -> host.streak(0));
        }
        DriverHost old = Check.loaded("drivers 1;delay 1 1;calm 5;");
        old.run(100);
        old.kill(0);
        old.run(3);
        Check.due("the time before the crash does not count", 1, () -> old.streak(0));
        old.run(3);
        Check.due("four ticks", 1, () -> old.streak(0));
        old.run(1);
        Check.due("five ticks", 0, () -> old.streak(0));
    }

    private static void stepENotBefore() {
        DriverHost host = Check.loaded("drivers 1;command a again time 1;delay 1 4;calm 1;poison 20;");
        host.submit(0, 0, 0, 0, 0);
        host.plan(0, 1, 2);
        host.run(3);
        Check.due("it crashes in the tick in which it would be calm", 2, () -> host.streak(0));
        host.run(2);
        Check.due("down for two ticks", 2, () -> host.streak(0));
        host.run(1);
        Check.due("calm in the tick of the restart", 0, () -> host.streak(0));
        DriverHost dead = Check.loaded("drivers 1;calm 1;streak 0;");
        dead.kill(0);
        dead.run(1000);
        Check.due("a dead one is never calm", 1, () -> dead.streak(0));
    }

    private static void stepEAfterAReplacement() {
        DriverHost host = Check.loaded("drivers 1;delay 1 1;calm 4;handover 2;");
        host.kill(0);
        host.run(5);
        Check.due("three ticks", 1, () -> host.streak(0));
        host.replace(0);
        host.run(2 + 3);
        Check.due("the restart begins anew", 1, () -> host.streak(0));
        host.run(1);
        Check.due("four ticks", 0, () -> host.streak(0));
    }

    private static void completing() {
        Check.says("Completing a request: the keepings are done, and the request is appended to the log of the"
                + " driver.");
        DriverHost host = Check.loaded("drivers 2;command a again time 1 keep 2=var 2*10+arg;every 20;");
        for (int n = 0; n < 4; n++) {
            host.submit(1, 0, n + 1, n, 0);
        }
        for (int n = 1; n <= 4; n++) {
            int size = n;
            host.run(1);
            Check.due("logSize", size, () -> host.logSize(1));
            Check.due("appended behind the others", 4 - size, () -> host.logged(1, size - 1));
            Check.due("behind the last", -1, () -> host.logged(1, size));
        }
        Check.due("the keepings", 4321, () -> host.variable(1, 2));
        Check.due("not those of another driver", 0, () -> host.variable(0, 2) + host.logSize(0));
    }

    private static void snapshotInterval() {
        Check.says("If the log then has as many requests as the snapshot interval, a snapshot is taken: the snapshot"
                + " becomes the variables, and the log is emptied.");
        for (int every : new int[] {1, 2, 19, 20}) {
            DriverHost host = Check.loaded("drivers 1;command a again time 1 keep 0=var 0+1 keep 3=arg;every " + every
                    + ";");
            for (int n = 1; n <= 2 * every; n++) {
                host.submit(0, 0, n, 0, 0);
            }
            host.run(every - 1);
            Check.due("one before " + every, every - 1, () -> host.logSize(0));
            Check.due("no snapshot", 0, () -> host.total(6) + host.saved(0, 0) + host.saved(0, 3));
            host.run(1);
            Check.due("the log is emptied", 0, () -> host.logSize(0));
            Check.due("nothing is logged", -1, () -> host.logged(0, 0));
            Check.due("a snapshot", 1, () -> host.total(6));
            Check.due("of the variables", every, () -> host.saved(0, 0));
            Check.due("of the variables", every, () -> host.saved(0, 3));
            Check.due("which stay", every, () -> host.variable(0, 0));
            host.run(every - 1);
            Check.due("one before twice " + every, 1, () -> host.total(6));
            host.run(1);
            Check.due("twice " + every, 2, () -> host.total(6));
        }
    }
}
