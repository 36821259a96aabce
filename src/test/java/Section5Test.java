/** Section 5 of the document, sentence by sentence: crashes and restarts. */
public final class Section5Test {
    private Section5Test() {
    }

    public static void main(String[] args) {
        crash();
        poisonNumber();
        streakLimit();
        poisonedAndDead();
        delays();
        firstDelayAfterACalmTime();
        crashWithoutARequest();
        restart();
        restoredMemory();
        decisionOfPureAndAgain();
        decisionOfOnce();
        decisionOfCheck();
        replacement();
        Check.close("Section5Test");
    }

    private static void crash() {
        Check.says("When a driver crashes, its crash streak increases by 1 and its variables are lost.");
        DriverHost host = Check.loaded("drivers 2;command a again time 1 keep 0=1 keep 1=2 keep 2=3 keep 3=4;"
                + "delay 1 1;streak 20;calm 1000;");
        host.submit(1, 0, 0, 0, 0);
        for (int crashes = 1; crashes <= 20; crashes++) {
            int want = crashes;
            host.run(3);
            Check.due("the variables", 1234, () -> variables(host));
            host.kill(1);
            Check.due("the streak", want, () -> host.streak(1));
            Check.due("the variables are lost", 0, () -> variables(host));
            Check.due("the streak of the other one", 0, () -> host.streak(0));
        }
    }

    private static int variables(DriverHost host) {
        int all = 0;
        for (int variable = 0; variable < 4; variable++) {
            all = all * 10 + host.variable(1, variable);
        }
        return all;
    }

    private static void poisonNumber() {
        Check.says("If a request is in flight, its number of crashes increases by 1; if this has reached the poison"
                + " number, it fails with 3 at once.");
        for (int poison : new int[] {1, 2, 3, 19, 20}) {
            DriverHost host = Check.loaded("drivers 1;command a again time 1;delay 1 1;streak 20;calm 1000;poison "
                    + poison + ";");
            host.submit(0, 0, 0, 0, 0);
            host.submit(0, 0, 0, 0, 0);
            host.plan(0, 1, 20);
            host.run(1);
            for (int crashes = 1; crashes < poison; crashes++) {
                int want = crashes;
                Check.due("crashes", want, () -> host.request(0, 10));
                Check.due("still in flight", 1, () -> host.request(0, 6));
                Check.due("inFlight", 0, () -> host.inFlight(0));
                host.run(2);
            }
            int at = host.clock() - 1;
            Check.due("crashes", poison, () -> host.request(0, 10));
            Check.due("poisoned", 3, () -> host.request(0, 7));
            Check.due("at once", at, () -> host.request(0, 14));
            Check.due("none in flight", -1, () -> host.inFlight(0));
            Check.due("the queued one has no crash", 0, () -> host.request(1, 10) + host.request(1, 6));
            Check.due("the driver is down", 1, () -> host.driverState(0));
        }
        DriverHost short1 = Check.loaded("drivers 1;command a again time 1;delay 1 1;streak 20;poison 4;");
        short1.submit(0, 0, 0, 0, 0);
        short1.plan(0, 1, 3);
        short1.run(100);
        Check.due("one crash less than the poison number", 2, () -> short1.request(0, 6));
    }

    private static void streakLimit() {
        Check.says("If the crash streak is greater than the streak limit, the driver is dead: the request in flight and"
                + " all queued requests fail with 5, in ascending order.");
        for (int limit : new int[] {0, 1, 5, 19, 20}) {
            DriverHost host = Check.loaded("drivers 2;command a again time 50;delay 1 1;calm 1000;poison 20;streak "
                    + limit + ";");
            for (int crashes = 1; crashes <= limit; crashes++) {
                Check.due("crash " + crashes + " of " + limit, 1, () -> host.kill(1));
                host.run(3);
                Check.due("restarted", 0, () -> host.driverState(1));
            }
            for (int n = 0; n < 4; n++) {
                host.submit(n == 3 ? 0 : 1, 0, 0, n == 1 ? 3 : 0, 0);
            }
            host.run(1);
            int from = host.recordCount();
            Check.due("request 1 is in flight", 1, () -> host.inFlight(1));
            Check.due("one crash more than " + limit, 2, () -> host.kill(1));
            Check.due("streak", limit + 1, () -> host.streak(1));
            for (int n = 0; n < 3; n++) {
                int request = n;
                Check.due("failure", 5, () -> host.request(request, 7));
                Check.due("its clock", host.clock(), () -> host.request(request, 14));
                Check.due("in ascending order", request, () -> host.record(from + 2 + request, 3));
            }
            Check.due("the crash counts for the one in flight", 1, () -> host.request(1, 10));
            Check.due("that of another driver goes on", 1, () -> host.request(3, 6));
            Check.due("nothing is left", -2, () -> host.inFlight(1) + host.nextRequest(1) + host.queued(1));
        }
    }

    private static void poisonedAndDead() {
        DriverHost host = Check.loaded("drivers 1;command a again time 50;streak 0;poison 1;");
        for (int n = 0; n < 3; n++) {
            host.submit(0, 0, 0, n == 1 ? 3 : 0, 0);
        }
        host.run(1);
        host.kill(0);
        Check.due("the poisoned one fails once, with 3", 3, () -> host.request(1, 7));
        Check.due("the others with 5", 10, () -> host.request(0, 7) + host.request(2, 7));
        Check.due("three failures", 3, () -> host.total(3));
        Check.due("dead all the same", 2, () -> host.driverState(0));
    }

    private static void delaysAre(int first, int greatest, int... delays) {
        DriverHost host = Check.loaded("drivers 1;streak 20;calm 1000;delay " + first + " " + greatest + ";");
        for (int crash = 0; crash < 20; crash++) {
            int delay = delays[Math.min(crash, delays.length - 1)];
            int until = host.clock() + 1 + delay;
            host.kill(0);
            Check.due("crash " + (crash + 1) + " with " + first + " and " + greatest, until, () -> host.downUntil(0));
            host.run(Math.min(1000, delay));
            host.run(2);
        }
    }

    private static void delays() {
        Check.says("Otherwise it is down until the clock at which it crashed plus 1 plus the delay: the first delay if"
                + " the streak is 1, and twice the delay before for each further crash of the streak, but at most the"
                + " greatest delay.");
        delaysAre(1, 1, 1);
        delaysAre(1, 2, 1, 2);
        delaysAre(1, 3, 1, 2, 3);
        delaysAre(1, 1000, 1, 2, 4, 8, 16, 32, 64, 128, 256, 512, 1000);
        delaysAre(1, 512, 1, 2, 4, 8, 16, 32, 64, 128, 256, 512);
        delaysAre(1, 511, 1, 2, 4, 8, 16, 32, 64, 128, 256, 511);
        delaysAre(3, 5, 3, 5);
        delaysAre(3, 6, 3, 6);
        delaysAre(3, 7, 3, 6, 7);
        delaysAre(100, 100, 100);
        delaysAre(100, 101, 100, 101);
        delaysAre(100, 199, 100, 199);
        delaysAre(100, 200, 100, 200);
        delaysAre(100, 201, 100, 200, 201);
        delaysAre(100, 1000, 100, 200, 400, 800, 1000);
        DriverHost tick = Check.loaded("drivers 1;command a again time 1;delay 4 9;");
        tick.run(6);
        tick.submit(0, 0, 0, 0, 0);
        tick.plan(0, 2, 1);
        tick.run(1);
        Check.due("a crash in the tick at 6", 6 + 1 + 4, () -> tick.downUntil(0));
    }

    private static void firstDelayAfterACalmTime() {
        DriverHost host = Check.loaded("drivers 1;streak 2;calm 3;delay 2 32;");
        int[] delays = {2, 4, 2, 4};
        for (int n = 0; n < delays.length; n++) {
            int until = host.clock() + 1 + delays[n];
            host.kill(0);
            Check.due("crash " + n, until, () -> host.downUntil(0));
            host.run(delays[n] + 1 + (n % 2 == 0 ? 2 : 3));
        }
        Check.due("streak", 0, () -> host.streak(0));
    }

    private static void crashWithoutARequest() {
        DriverHost host = Check.loaded("drivers 1;command a again time 1;poison 1;");
        host.submit(0, 0, 0, 0, 0);
        host.kill(0);
        Check.due("a queued request has no crash", 0, () -> host.request(0, 10));
        Check.due("and is not poisoned", 0, () -> host.request(0, 6));
        host.run(4);
        Check.due("but completed", 2, () -> host.request(0, 6));
    }

    private static void restart() {
        Check.says("When a driver restarts, it is running, and started at the present clock.");
        DriverHost host = Check.loaded("drivers 1;delay 3 3;calm 2;");
        host.kill(0);
        host.run(5);
        Check.due("running", 0, () -> host.driverState(0));
        Check.due("down until", -1, () -> host.downUntil(0));
        Check.due("started at 4, so not calm after one tick", 1, () -> host.streak(0));
        host.run(1);
        Check.due("but after two", 0, () -> host.streak(0));
    }

    private static void restoredMemory() {
        Check.says("Its variables become the snapshot; then the keepings of all requests in the log are done in order,"
                + " with their arguments and results.");
        for (int logged : new int[] {0, 1, 2, 18, 19}) {
            DriverHost host = Check.loaded("drivers 1;command a again time 1 result reg 0+arg keep 0=var 0*3+arg "
                    + "keep 1=var 1*5+res keep 2=var 2;command b again time 1 keep 0=var 0*7 keep 3=var 3+arg;"
                    + "every 20;delay 1 1;");
            host.poke(0, 0, 9);
            host.submit(0, 0, 4, 0, 0);
            host.submit(0, 1, 5, 0, 0);
            host.run(2);
            host.takeSnapshot(0);
            for (int n = 0; n < logged; n++) {
                host.submit(0, n % 3 / 2, n + 1, n % 2, 0);
            }
            host.run(logged);
            Check.due("logSize", logged, () -> host.logSize(0));
            int[] before = memory(host);
            host.poke(0, 0, 1000);
            host.kill(0);
            Check.due("lost", 0, () -> memory(host)[0] + memory(host)[3]);
            host.run(3);
            for (int variable = 0; variable < 4; variable++) {
                int asked = variable;
                Check.due("variable " + variable + " after " + logged, before[variable],
                        () -> host.variable(0, asked));
            }
            Check.due("the log stays", logged, () -> host.logSize(0));
            Check.due("the results stay", 13, () -> host.request(0, 8));
        }
    }

    private static int[] memory(DriverHost host) {
        return new int[] {host.variable(0, 0), host.variable(0, 1), host.variable(0, 2), host.variable(0, 3)};
    }

    private static DriverHost crashed(String commandClass, int point, int register) {
        DriverHost host = Check.loaded("drivers 1;command a " + commandClass
                + " time 1 result reg 0*10+var 0 set 0=reg 0+1 keep 0=var 0+2 keep 1=res;delay 1 1;");
        host.submit(0, 0, 3, 0, 0);
        host.run(1);
        host.submit(0, 0, 3, 0, 0);
        host.plan(1, point, 1);
        host.run(1);
        host.poke(0, 0, register);
        host.run(2);
        return host;
    }

    private static void decisionOfPureAndAgain() {
        Check.says("pure, again: it is queued again as the returned request.");
        for (String commandClass : new String[] {"pure", "again"}) {
            for (int point : new int[] {1, 2}) {
                DriverHost host = crashed(commandClass, point, 50);
                Check.due("queued again", 1, () -> host.total(7));
                Check.due("begun again", 3, () -> host.total(1));
                Check.due("completed", 2, () -> host.request(1, 6));
                Check.due("with the result of its last execution", 502, () -> host.request(1, 8));
                Check.due("executions", point, () -> host.request(1, 9));
                Check.due("register", 51, () -> host.register(0, 0));
            }
        }
    }

    private static void decisionOfOnce() {
        Check.says("once: it fails with 2.");
        for (int point : new int[] {1, 2}) {
            DriverHost host = crashed("once", point, 50);
            Check.due("failure", 2, () -> host.request(1, 7));
            Check.due("at the restart", 3, () -> host.request(1, 14));
            Check.due("not queued again", 0, () -> host.total(7));
            Check.due("executions", point - 1, () -> host.request(1, 9));
            Check.due("register", 50, () -> host.register(0, 0));
            Check.due("nothing is kept of it", 2, () -> host.variable(0, 0));
        }
    }

    private static void decisionOfCheck() {
        Check.says("check: if the condition holds (with the registers as they are), the request is completed; its"
                + " result is the value of the result expression now.");
        for (int point : new int[] {1, 2}) {
            DriverHost host = crashed("check reg 0=arg*10", point, 30);
            Check.due("completed", 2, () -> host.request(1, 6));
            Check.due("at the restart", 3, () -> host.request(1, 14));
            Check.due("the result now, with the restored memory", 302, () -> host.request(1, 8));
            Check.due("executions", point - 1, () -> host.request(1, 9));
            Check.due("no settings", 30, () -> host.register(0, 0));
            Check.due("the keepings", 4, () -> host.variable(0, 0));
            Check.due("the result is kept", 302, () -> host.variable(0, 1));
            Check.due("it is in the log", 1, () -> host.logged(0, 1));
        }
        Check.says("Otherwise it is queued again as the returned request.");
        for (int register : new int[] {29, 31}) {
            DriverHost host = crashed("check reg 0=arg*10", 2, register);
            Check.due("queued again", 1, () -> host.total(7));
            Check.due("executions", 2, () -> host.request(1, 9));
            Check.due("register", register + 1, () -> host.register(0, 0));
            Check.due("result", register * 10 + 2, () -> host.request(1, 8));
        }
    }

    private static void replacement() {
        Check.says("A driver can also be replaced without a crash: a snapshot is taken, and it is down until the"
                + " present clock plus the handover time; the streak stays.");
        for (int handover : new int[] {1, 2, 50}) {
            DriverHost host = Check.loaded("drivers 1;command a again time 1 keep 0=arg;delay 1 1;calm 1000;handover "
                    + handover + ";");
            host.kill(0);
            host.run(3);
            host.submit(0, 0, 6, 0, 0);
            host.run(1);
            Check.due("replace", 4 + handover, () -> host.replace(0));
            Check.due("down until", 4 + handover, () -> host.downUntil(0));
            Check.due("a snapshot", 6, () -> host.saved(0, 0));
            Check.due("the log is emptied", 0, () -> host.logSize(0));
            Check.due("its record", 6, () -> host.record(host.recordCount() - 1, 1));
            Check.due("no crash", 1, () -> host.total(4));
            host.run(handover + 1);
            Check.due("running", 0, () -> host.driverState(0));
            Check.due("the streak stays", 1, () -> host.streak(0));
            Check.due("the memory is restored", 6, () -> host.variable(0, 0));
        }
    }
}
