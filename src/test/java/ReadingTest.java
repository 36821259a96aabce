/** Promises 1 to 6, 9 and 10, and section 7: the buffer, the text and its errors. */
public final class ReadingTest {
    private static final String QUOTED = "drivers command time result set keep delay calm streak poison every handover"
            + " pure again once check or and not reg var arg res many first number driver kind class argument priority"
            + " state failure executions crashes";

    private ReadingTest() {
    }

    public static void main(String[] args) {
        promise1NewObject();
        promise2Feed();
        promise3Load();
        promise3LoadReplacesEverything();
        promise3WithoutClauses();
        promise3LastClauseCounts();
        promise4ErrorPosition();
        promises5And6Counts();
        promises9And10Commands();
        tokens();
        ranges();
        places();
        names();
        brackets();
        ninthCommand();
        earlyEnds();
        wholeBuffers();
        Check.close("ReadingTest");
    }

    private static void promise1NewObject() {
        DriverHost host = new DriverHost();
        Check.due("new driverCount", 1, host::driverCount);
        Check.due("new commandCount", 0, host::commandCount);
        Check.due("new requestCount", 0, host::requestCount);
        Check.due("new clock", 0, host::clock);
        Check.due("new errorPosition", -1, host::errorPosition);
        Check.due("new recordCount", 0, host::recordCount);
        Check.due("new undoCount", 0, host::undoCount);
        Check.due("new undo", -1, host::undo);
        Check.due("new restoreState", false, host::restoreState);
        Check.due("new driverState", 0, () -> host.driverState(0));
        Check.missing("new driverState(1)", () -> host.driverState(1));
        Check.missing("new submit", () -> host.submit(0, 0, 0, 0, 0));
        Check.due("handover without clauses", 1, () -> host.replace(0));
        Check.due("delay without clauses", 1, () -> host.run(2) + host.kill(0));
        Check.due("first delay without clauses", 5, () -> host.downUntil(0));
    }

    private static void promise2Feed() {
        DriverHost host = new DriverHost();
        for (int i = 1; i <= 45; i++) {
            int want = 20 * i;
            Check.due("feed " + i, want, () -> host.feed(0x20202020, -1, 0, 1, Integer.MIN_VALUE));
        }
        Check.due("feed 46", -1, () -> host.feed(1, 2, 3, 4, 5));
        Check.due("feed 47", -1, () -> host.feed(1, 2, 3, 4, 5));
        Check.due("load after a full buffer", -11, () -> host.load(900));
        Check.due("the fifth byte is the first that is no blank", 4, host::errorPosition);
        Check.due("feed after load", 20, () -> host.feed(1, 2, 3, 4, 5));
        Check.due("most significant byte first", 1, () -> {
            DriverHost other = new DriverHost();
            other.feed('d' << 24 | 'r' << 16 | 'i' << 8 | 'v', 'e' << 24 | 'r' << 16 | 's' << 8 | ' ',
                    '1' << 24 | ';' << 16, 0, 0);
            return other.load(10) + other.driverCount();
        });
    }

    private static void promise3Load() {
        DriverHost host = new DriverHost();
        Check.refused("load(1) of an empty buffer", () -> host.load(1));
        Check.refused("load(-1)", () -> host.load(-1));
        Check.refused("load of the least int", () -> host.load(Integer.MIN_VALUE));
        Check.due("load(0)", -11, () -> host.load(0));
        Check.due("errorPosition after load(0)", 0, host::errorPosition);
        Check.feed(host, "drivers 2;");
        Check.refused("load(21) of 20", () -> host.load(21));
        Check.refused("load(-1) of 20", () -> host.load(-1));
        Check.due("errorPosition is left by a refused load", 0, host::errorPosition);
        Check.due("the buffer is left by a refused load", 0, () -> host.load(20));
        Check.due("drivers", 2, host::driverCount);
        Check.refused("the buffer is empty after load", () -> host.load(1));
        Check.feed(host, "drivers 3;drivers");
        Check.due("only the first bytes are read", 0, () -> host.load(10));
        Check.refused("the rest of the buffer is gone", () -> host.load(1));
        Check.feed(host, "drivers 12;");
        Check.due("a number ends with the length", -11, () -> host.load(9));
        Check.due("its error", 9, host::errorPosition);
        Check.feed(host, "driversx 1;");
        Check.due("a word ends with the length", -11, () -> host.load(7));
        Check.due("its error", 7, host::errorPosition);
        Check.feed(host, "drivers 9;");
        Check.due("load with an error", -12, () -> host.load(10));
        Check.refused("the buffer is empty after an error", () -> host.load(1));
        Check.due("the drivers are left by an error", 3, host::driverCount);
    }

    private static void promise3LoadReplacesEverything() {
        DriverHost host = Check.loaded("drivers 2;command a once time 1 set 3=arg keep 1=arg;delay 7 9;");
        host.submit(1, 0, 5, 0, 0);
        host.run(3);
        host.takeSnapshot(1);
        host.kill(0);
        host.saveState();
        String before = Check.all(host);
        Check.due("a text with an error", -11, () -> Check.load(host, "drivers 1;command a once time 1"));
        Check.due("all is as before", before, () -> Check.all(host));
        Check.due("the undo history too", 4, host::undoCount);
        Check.due("the saved state too", true, host::restoreState);
        host.poke(0, 0, 1);
        Check.due("a text without commands", 0, () -> Check.load(host, "drivers 2;"));
        Check.due("requests", 0, host::requestCount);
        Check.due("records", 0, host::recordCount);
        Check.due("clock", 0, host::clock);
        Check.due("undo history", 0, host::undoCount);
        Check.due("undo", -1, host::undo);
        Check.due("saved state", false, host::restoreState);
        Check.due("commands", 0, host::commandCount);
        Check.due("registers", 0, () -> host.register(0, 0) + host.register(1, 3));
        Check.due("variables", 0, () -> host.variable(1, 1) + host.saved(1, 1));
        Check.due("state", 0, () -> host.driverState(0));
        Check.due("streak", 0, () -> host.streak(0));
        Check.due("totals", 0, () -> host.total(0) + host.total(4));
        Check.due("availability", 1.0, () -> host.availability(0));
        Check.due("the delays are those without clauses again", 3, () -> host.kill(0) * host.downUntil(0));
    }

    private static void promise3WithoutClauses() {
        DriverHost host = Check.loaded("drivers 1;command a again time 1;");
        int[] untils = {3, 9, 19, 37, 71};
        for (int until : untils) {
            host.kill(0);
            Check.due("delays double from 2 to 32", until, () -> host.downUntil(0));
            host.run(until - host.clock() + 1);
            Check.due("it has restarted", 0, () -> host.driverState(0));
        }
        Check.due("streak 5", 5, () -> host.streak(0));
        Check.due("streak limit 5", 2, () -> host.kill(0));
        DriverHost many = Check.loaded("drivers 1;streak 6;calm 1000;");
        for (int delay : new int[] {2, 4, 8, 16, 32, 32}) {
            int until = many.clock() + 1 + delay;
            many.kill(0);
            Check.due("greatest delay 32", until, () -> many.downUntil(0));
            many.run(delay + 2);
        }
        DriverHost other = Check.loaded("drivers 1;command a again time 1;");
        other.submit(0, 0, 0, 0, 0);
        other.plan(0, 1, 20);
        other.run(30);
        Check.due("poison number 3", 3, () -> other.request(0, 10) * (other.request(0, 7) / 3));
        DriverHost third = Check.loaded("drivers 1;command a again time 1;");
        for (int i = 0; i < 4; i++) {
            third.submit(0, 0, 0, 0, 0);
        }
        third.run(3);
        Check.due("three in the log", 3, () -> third.logSize(0));
        third.run(1);
        Check.due("snapshot interval 4", 1, () -> third.total(6) + third.logSize(0));
        Check.due("handover time 1", 5, () -> third.replace(0));
        DriverHost fourth = Check.loaded("drivers 1;");
        fourth.kill(0);
        fourth.run(3 + 19);
        Check.due("streak before the calm time", 1, () -> fourth.streak(0));
        fourth.run(1);
        Check.due("calm time 20", 0, () -> fourth.streak(0));
    }

    private static void promise3LastClauseCounts() {
        DriverHost host = Check.loaded("drivers 1;delay 5 6;delay 3 4;handover 9;handover 7;calm 1;calm 2;"
                + "streak 0;streak 1;poison 4;poison 1;every 9;every 1;command a pure time 1;");
        Check.due("handover", 7, () -> host.replace(0));
        host.run(8);
        host.kill(0);
        Check.due("delay", 8 + 1 + 3, () -> host.downUntil(0));
        host.run(5);
        Check.due("calm is not 1", 1, () -> host.streak(0));
        host.run(1);
        Check.due("calm is 2", 0, () -> host.streak(0));
        host.submit(0, 0, 0, 0, 0);
        host.run(1);
        Check.due("every", 2, () -> host.total(6));
        host.submit(0, 0, 0, 0, 0);
        host.plan(1, 1, 1);
        host.run(1);
        Check.due("poison", 3, () -> host.request(1, 7));
        Check.due("streak limit is not 0", 1, () -> host.driverState(0));
    }

    private static void promise4ErrorPosition() {
        DriverHost host = new DriverHost();
        Check.due("load with an error", -12, () -> Check.load(host, "drivers 7;"));
        Check.due("errorPosition of load", 8, host::errorPosition);
        Check.due("query with an error", -1000000001, () -> Check.query(host, "many of"));
        Check.due("errorPosition of query", 5, host::errorPosition);
        Check.due("query", 0, () -> Check.query(host, "many state=0"));
        Check.due("errorPosition without an error", -1, host::errorPosition);
        Check.due("query with an error", -1000000001, () -> Check.query(host, "few"));
        Check.refused("query that reads nothing", () -> host.query(1));
        Check.due("errorPosition is left", 0, host::errorPosition);
        host.saveState();
        host.poke(0, 0, 1);
        host.undo();
        host.restoreState();
        Check.due("errorPosition is left by undo and restoreState", 0, host::errorPosition);
        Check.due("load", 0, () -> Check.load(host, "drivers 1;"));
        Check.due("errorPosition after load", -1, host::errorPosition);
    }

    private static void promises5And6Counts() {
        for (int n = 1; n <= 4; n++) {
            DriverHost host = Check.loaded("drivers " + n + ";");
            int want = n;
            Check.due("driverCount", want, host::driverCount);
            Check.due("the last driver", 0, () -> host.driverState(want - 1));
            Check.missing("the driver behind it", () -> host.driverState(want));
            Check.missing("driver -1", () -> host.driverState(-1));
        }
        StringBuilder text = new StringBuilder("drivers 1;");
        for (int n = 1; n <= 8; n++) {
            text.append("command ").append((char) ('a' + n)).append(" pure time 1;");
            DriverHost host = Check.loaded(text.toString());
            Check.due("commandCount", n, host::commandCount);
        }
    }

    private static void promises9And10Commands() {
        DriverHost host = Check.loaded("drivers 1;command a pure time 1;command b again time 50;"
                + "command c once time 7;command d check 1=1 time 02;");
        int[] times = {1, 50, 7, 2};
        for (int n = 0; n < 4; n++) {
            int command = n;
            Check.due("classOf " + n, n, () -> host.classOf(command));
            Check.due("timeOf " + n, times[n], () -> host.timeOf(command));
        }
        for (int command : new int[] {-1, 4, 8, Integer.MAX_VALUE, Integer.MIN_VALUE}) {
            Check.missing("classOf " + command, () -> host.classOf(command));
            Check.missing("timeOf " + command, () -> host.timeOf(command));
        }
    }

    private static void tokens() {
        Check.accepts("drivers1;", 0);
        Check.accepts("  drivers\n\n 0001 \n;\n", 0);
        Check.accepts("drivers 1;command a check reg0=1 time1set0=1keep0=1;", 1);
        Check.accepts("drivers 1;command a pure time 1 result 1+2-3*(reg 0-arg)set 0=res keep 1=res*var 3;", 1);
        Check.accepts("drivers 1;command a check [not 1<2 or 1>2]and arg=reg 7 time 1;", 1);
        Check.rejects("drivers\t1;", 1, 7);
        Check.rejects("Drivers 1;", 1, 0);
        Check.rejects("drivers 1;\r", 1, 10);
        Check.rejects("drivers 1;\0", 1, 10);
        Check.rejects("drivers 1\u00e9;", 1, 9);
        Check.rejects("drivers 1;{", 1, 10);
        Check.rejects("drivers 1;calm 1a;", 1, 16);
        Check.rejects("drivers 1;calmer 1;", 1, 10);
        Check.rejects("drivers 1;calm -1;", 1, 15);
        Check.rejects("drivers 1;calm 1;;", 1, 17);
        Check.rejects("drivers 5\u00e9;", 2, 8);
        Check.rejects("drivers one;", 1, 8);
        Check.rejects("drivers 1,", 1, 9);
        Check.rejects("drivers 1;drivers 1;", 1, 10);
    }

    private static void ranges() {
        Check.rejects("drivers 0;", 2, 8);
        Check.rejects("drivers 5;", 2, 8);
        Check.rejects("drivers 99999999999999999999;", 2, 8);
        Check.rejects("drivers 4294967297;", 2, 8);
        Check.accepts("drivers 00000000000000000000000000000004;", 0);
        bounds("calm ", 1, 1000);
        bounds("streak ", 0, 20);
        bounds("poison ", 1, 20);
        bounds("every ", 1, 20);
        bounds("handover ", 1, 50);
        bounds("delay 1 ", 1, 1000);
        bounds("delay 100 ", 100, 1000);
        Check.accepts("drivers 1;delay 100 100;", 0);
        Check.rejects("drivers 1;delay 101 100;", 2, 16);
        Check.rejects("drivers 1;delay 0 100;", 2, 16);
        Check.rejects("drivers 1;delay 5;", 1, 17);
        inCommand("command a pure time ", 1, 50, ";");
        inCommand("command a pure time 1 set ", 0, 7, "=1;");
        inCommand("command a pure time 1 keep ", 0, 3, "=1;");
        inCommand("command a pure time 1 result ", 0, 65535, ";");
        inCommand("command a pure time 1 result reg ", 0, 7, ";");
        inCommand("command a pure time 1 result var ", 0, 3, ";");
        inCommand("command a check arg=", 0, 65535, " time 1;");
    }

    private static void bounds(String before, int low, int high) {
        String start = "drivers 1;" + before;
        Check.accepts(start + low + ";", 0);
        Check.accepts(start + high + ";", 0);
        Check.rejects(start + (high + 1) + ";", 2, start.length());
        if (low > 0) {
            Check.rejects(start + (low - 1) + ";", 2, start.length());
        }
        Check.rejects(start + ";", 1, start.length());
        Check.rejects(start + low + " " + low + ";", 1, (start + low).length() + 1);
    }

    private static void inCommand(String before, int low, int high, String after) {
        String start = "drivers 1;" + before;
        Check.accepts(start + low + after, 1);
        Check.accepts(start + high + after, 1);
        Check.rejects(start + (high + 1) + after, 2, start.length());
        Check.rejects(start + "4294967296" + after, 2, start.length());
        if (low > 0) {
            Check.rejects(start + (low - 1) + after, 2, start.length());
        }
    }

    private static void places() {
        String start = "drivers 1;command a pure time 1 ";
        int at = start.length();
        Check.rejects(start + "result res;", 1, at + 7);
        Check.rejects(start + "result 1+res;", 1, at + 9);
        Check.accepts(start + "result reg 0+var 0+arg;", 1);
        Check.accepts(start + "set 0=reg 0+var 0+arg+res;", 1);
        Check.accepts(start + "keep 0=var 0+arg+res;", 1);
        Check.rejects(start + "keep 0=reg 0;", 1, at + 7);
        Check.rejects(start + "keep 0=(1+(reg 0));", 1, at + 11);
        Check.rejects(start + "keep 0=1 set 0=1;", 1, at + 9);
        Check.rejects(start + "set 0=1 result 1;", 1, at + 8);
        Check.rejects(start + "result 1 result 1;", 1, at + 9);
        Check.rejects(start + "set 0<1;", 1, at + 5);
        Check.rejects(start + "result;", 1, at + 6);
        Check.rejects(start + "result [1];", 1, at + 7);
        Check.rejects(start + "result 1=1;", 1, at + 8);
        Check.rejects(start + "result -1;", 1, at + 7);
        Check.rejects(start + "result 1 2;", 1, at + 9);
        Check.rejects(start + "result 1+;", 1, at + 9);
        Check.rejects(start + "result (1;", 1, at + 9);
        String check = "drivers 1;command a check ";
        at = check.length();
        Check.rejects(check + "var 0=1 time 1;", 1, at);
        Check.rejects(check + "res=1 time 1;", 1, at);
        Check.rejects(check + "1=res time 1;", 1, at + 2);
        Check.rejects(check + "time 1;", 1, at);
        Check.rejects(check + "1 time 1;", 1, at + 2);
        Check.rejects(check + "1=2=3 time 1;", 1, at + 3);
        Check.rejects(check + "(1=2) time 1;", 1, at + 2);
        Check.rejects(check + "[1]=2 time 1;", 1, at + 2);
        Check.rejects(check + "1=1 or time 1;", 1, at + 7);
        Check.rejects(check + "1=1 not 1=1 time 1;", 1, at + 4);
        Check.accepts(check + "(1+2)*3=arg and not not reg 0<1 or [1=1] time 1;", 1);
        Check.rejects("drivers 1;command a time 1;", 1, 20);
        Check.rejects("drivers 1;command a pure 1;", 1, 25);
        Check.rejects("drivers 1;command a pure pure time 1;", 1, 25);
    }

    private static void names() {
        for (String word : QUOTED.split(" ")) {
            Check.rejects("drivers 1;command " + word + " pure time 1;", 1, 18);
            Check.accepts("drivers 1;command " + word + "x pure time 1;", 1);
            Check.accepts("drivers 1;command z" + word.substring(1) + " pure time 1;", 1);
            Check.accepts("drivers 1;command " + word.substring(0, word.length() - 1) + "z pure time 1;", 1);
        }
        Check.accepts("drivers 1;command register pure time 1;command variable pure time 1;command n once time 1;", 3);
        Check.accepts("drivers 1;command a pure time 1;command aa pure time 1;command b pure time 1;", 3);
        Check.rejects("drivers 1;command aa pure time 1;command b pure time 1;command aa", 4, 63);
        Check.rejects("drivers 1;command aa pure time 1;command aa\npure time 1;", 4, 41);
        Check.accepts("drivers 1;command a pure time 1;command z pure time 1;command az pure time 1;", 3);
        Check.rejects("drivers 1;command az pure time 1;command az", 4, 41);
        Check.rejects("drivers 1;command 7 pure time 1;", 1, 18);
        Check.rejects("zrivers 1;", 1, 0);
    }

    private static void brackets() {
        String start = "drivers 1;command a pure time 1 result ";
        Check.accepts(start + "((((((1))))));", 1);
        Check.accepts(start + "((((((1))))))+((((((1))))));", 1);
        Check.rejects(start + "(((((((1)))))));", 3, start.length() + 6);
        Check.rejects(start + "1((((((1))))));", 1, start.length() + 1);
        String check = "drivers 1;command a check ";
        Check.accepts(check + "not not not not not not 1=1 time 1;", 1);
        Check.accepts(check + "not not not not not not 1=1 and not not not not not not 1=1 time 1;", 1);
        Check.rejects(check + "not not not not not not not 1=1 time 1;", 3, check.length() + 24);
        Check.accepts(check + "not [not [((1))=((1))]] time 1;", 1);
        Check.rejects(check + "not [not [not [(1)=1]]] time 1;", 3, check.length() + 15);
        Check.rejects(check + "[[[[[[[1=1]]]]]]] time 1;", 3, check.length() + 6);
        Check.rejects(check + "not not not not not not [1=1] time 1;", 3, check.length() + 24);
        Check.rejects(check + "not not not [ ((( 1 ))) = 1 ] time 1;", 3, check.length() + 16);
        Check.accepts(check + "[[[[[[1=1]]]]]] time 1 result ((((((1)))))) set 0=((((((1)))))) keep 0=((((((1))))));",
                1);
    }

    private static void ninthCommand() {
        StringBuilder text = new StringBuilder("drivers 1;");
        for (int n = 0; n < 8; n++) {
            text.append("command ").append((char) ('a' + n)).append(" pure time 1;");
        }
        Check.accepts(text + "calm 1;", 8);
        Check.rejects(text + "command a pure time 1;", 3, text.length());
        Check.rejects(text + "command", 3, text.length());
        Check.rejects(text + "calm command;", 1, text.length() + 5);
    }

    private static void earlyEnds() {
        String text = "drivers 1;command a check [reg 1=(arg)] time 1 result var 0 set 0=res keep 0=1;delay 1 2;";
        Check.accepts(text, 1);
        for (int length = 0; length < text.length(); length++) {
            String part = text.substring(0, length);
            if (part.endsWith(";")) {
                continue;
            }
            boolean insideWord = !part.isEmpty() && text.charAt(length) >= 'a' && text.charAt(length) <= 'z'
                    && part.charAt(length - 1) >= 'a' && part.charAt(length - 1) <= 'z';
            if (!insideWord) {
                Check.rejects(part, 1, length);
                Check.rejects(part + " \n ", 1, length + 3);
            }
        }
    }

    private static String filled(String start, String end) {
        return start + " ".repeat(900 - start.length() - end.length()) + end;
    }

    private static void wholeBuffers() {
        Check.accepts(filled("drivers 1;", "calm 7;"), 0);
        Check.rejects(filled("drivers 1;", "calm 12"), 1, 900);
        Check.rejects(filled("drivers 1;", "calm 1001"), 2, 896);
        Check.rejects(filled("drivers 1;", "calm"), 1, 900);
        Check.rejects(filled("drivers 1;", "command res"), 1, 897);
        Check.rejects(filled("drivers 1;", "command rest"), 1, 900);
        StringBuilder commands = new StringBuilder("drivers 1;");
        for (int n = 0; n < 8; n++) {
            commands.append("command ").append((char) ('a' + n)).append(" pure time 1;");
        }
        Check.rejects(filled(commands.toString(), "command"), 3, 893);
        StringBuilder sum = new StringBuilder("drivers 1;command a pure time 1 result 1");
        while (sum.length() < 894) {
            sum.append("+1");
        }
        sum.append(sum.length() % 2 == 0 ? "-arg;" : "*2;");
        DriverHost host = Check.loaded(sum.toString());
        host.submit(0, 0, 7, 0, 0);
        host.run(1);
        int terms = (int) sum.chars().filter(sign -> sign == '+').count() + 1;
        int want = sum.indexOf("arg") > 0 ? terms - 7 : terms + 1;
        Check.due("a sum of " + terms + " terms", want, () -> host.request(0, 8));
        host.feed(0x20202020, 0x20202020, 0x20202020, 0x20202020, 0x20202020);
        Check.due("load(0) reads nothing", -11, () -> host.load(0));
        Check.due("its error", 0, host::errorPosition);
    }
}
