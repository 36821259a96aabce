/** Section 7 of the document, sentence by sentence: the input text. */
public final class Section7Test {
    private static final String START = "drivers 1;command a pure time 1 ";
    private static final String CHECK = "drivers 1;command a check ";
    private static final String QUOTED = "drivers command time result set keep delay calm streak poison every handover"
            + " pure again once check or and not reg var arg res many first number driver kind class argument priority"
            + " state failure executions crashes";

    private Section7Test() {
    }

    public static void main(String[] args) {
        wordsAndNumbers();
        blanks();
        everyOtherByte();
        everyByteInASum();
        names();
        numbersOfClauses();
        numbersOfCommands();
        delayRange();
        wrongForms();
        everyWordInItsPlace();
        wrongTests();
        wrongSums();
        brackets();
        places();
        fromLeftToRight();
        lastOccurrence();
        withoutClauses();
        firstError();
        smallestCode();
        earlyEnd();
        bytesBehindTheLength();
        outOfRange();
        ninthCommand();
        seventhOpen();
        notIsOpenUntilTheEndOfItsFactor();
        sameName();
        Check.close("Section7Test");
    }

    private static void wordsAndNumbers() {
        Check.says("Tokens: a word is a maximal run of the letters a to z; a number is a maximal run of digits (leading"
                + " zeros are allowed); each of the bytes ; ( ) < = > + - * is a token.");
        Check.accepts("drivers1;command a pure time1result1set0=2keep0=3;", 1);
        Check.accepts("drivers1;command a check(1)+2*3-4<5and 6=7or 8>9time1;", 1);
        Check.rejects("driversone;", 1, 0);
        Check.rejects("drivers 1;commanda pure time 1;", 1, 10);
        Check.rejects("drivers 1;command a puretime 1;", 1, 20);
        Check.rejects("drivers 1;calm 1 0;", 1, 17);
        Check.rejects("drivers 1;calm 1x;", 1, 16);
        Check.accepts("drivers 0000000000004;", 0);
        Check.rejects("drivers 0000000000005;", 2, 8);
        Check.accepts("drivers 1;calm " + "0".repeat(880) + "1000;", 0);
        Check.rejects("drivers 1;calm " + "0".repeat(880) + "1001;", 2, 15);
        Check.rejects("drivers 1;calm " + "0".repeat(884) + ";", 2, 15);
        Check.rejects("drivers 1;calm " + "9".repeat(884) + ";", 2, 15);
        Check.accepts("drivers 1;command " + "z".repeat(860) + " pure time 1;", 1);
        Check.accepts("drivers 1;command az pure time 1;command za once time 1;", 2);
    }

    private static void blanks() {
        Check.says("The bytes 32 and 10 separate tokens and are otherwise ignored.");
        for (String blank : new String[] {" ", "\n", " \n ", "\n\n\n"}) {
            Check.accepts(blank + "drivers" + blank + "1" + blank + ";" + blank + "calm" + blank + "7" + blank + ";"
                    + blank, 0);
            Check.rejects("drivers 1;calm 1" + blank + "0;", 1, 16 + blank.length());
            Check.rejects("drivers 1;ca" + blank + "lm 10;", 1, 10);
            Check.rejects(blank, 1, blank.length());
            Check.rejects(blank + blank + "drivers" + blank + blank + "9;", 2, 7 + 4 * blank.length());
        }
        Check.accepts(" ".repeat(890) + "drivers 1;", 0);
        Check.accepts("drivers 1;" + "\n".repeat(890), 0);
    }

    private static void everyOtherByte() {
        Check.says("Every other byte is an invalid token.");
        for (int value = 0; value < 256; value++) {
            String sign = String.valueOf((char) value);
            boolean blank = value == 32 || value == 10;
            boolean letter = value >= 'a' && value <= 'z';
            if (blank) {
                Check.accepts("drivers 1;" + sign + "calm 7;" + sign, 0);
                Check.accepts(sign + "drivers 1;", 0);
            } else {
                Check.rejects("drivers 1;" + sign + "calm 7;", 1, 10);
                Check.rejects("drivers 1;" + sign, 1, 10);
                Check.rejects(sign + "drivers 1;", 1, 0);
            }
            if (!blank && !letter) {
                Check.rejects("drivers 1;command " + sign + " pure time 1;", 1, 18);
                Check.rejects("drivers 1;command a" + sign + "pure time 1;", 1, 19);
                if (value < '0' || value > '9') {
                    Check.rejects("drivers" + sign + "1;", 1, 7);
                }
            }
        }
    }

    private static void everyByteInASum() {
        String start = START + "result 1";
        int at = start.length();
        for (int value = 0; value < 256; value++) {
            String text = start + (char) value + "2;";
            boolean digit = value >= '0' && value <= '9';
            if (digit || value == '+' || value == '-' || value == '*') {
                Check.accepts(text, 1);
            } else if (value == 32 || value == 10) {
                Check.rejects(text, 1, at + 1);
            } else {
                Check.rejects(text, 1, value == ';' ? at + 1 : at);
            }
        }
    }

    private static void names() {
        Check.says("A NAME is a word that is not quoted in the grammars of this document.");
        for (String word : QUOTED.split(" ")) {
            Check.rejects("drivers 1;command " + word + " pure time 1;", 1, 18);
            Check.accepts("drivers 1;command " + word + "x pure time 1;", 1);
            Check.accepts("drivers 1;command x" + word + " pure time 1;", 1);
            String shorter = word.substring(0, word.length() - 1);
            if (!shorter.isEmpty() && !(" " + QUOTED + " ").contains(" " + shorter + " ")) {
                Check.accepts("drivers 1;command " + shorter + " pure time 1;", 1);
            }
        }
        for (String word : "text clause n register variable test conjunction factor sum product operand query criterion"
                .split(" ")) {
            Check.accepts("drivers 1;command " + word + " pure time 1;", 1);
        }
        Check.rejects("drivers 1;command 5 pure time 1;", 1, 18);
        Check.rejects("drivers 1;command pure time 1;", 1, 18);
        Check.rejects("drivers 1;command;", 1, 17);
    }

    private static void range(String before, int low, int high, String after) {
        int at = before.length();
        int commands = before.contains("command") ? 1 : 0;
        Check.accepts(before + low + after, commands);
        Check.accepts(before + high + after, commands);
        Check.rejects(before + (high + 1) + after, 2, at);
        Check.rejects(before + "2147483648" + after, 2, at);
        Check.rejects(before + (4294967296L + low) + after, 2, at);
        Check.rejects(before + (4294967296L * 4294967L + high) + after, 2, at);
        if (low > 0) {
            Check.rejects(before + (low - 1) + after, 2, at);
        }
        Check.rejects(before + "-1" + after, 1, at);
        Check.rejects(before + "x" + after, 1, at);
        Check.rejects(before + ";", 1, at);
    }

    private static void numbersOfClauses() {
        Check.says("text: 'drivers' n (1 to 4) ';' clause*");
        range("drivers ", 1, 4, ";");
        Check.says("| 'calm' n (1 to 1000) ';'");
        range("drivers 1;calm ", 1, 1000, ";");
        Check.says("| 'streak' n (0 to 20) ';'");
        range("drivers 1;streak ", 0, 20, ";");
        Check.says("| 'poison' n (1 to 20) ';'");
        range("drivers 1;poison ", 1, 20, ";");
        Check.says("| 'every' n (1 to 20) ';'");
        range("drivers 1;every ", 1, 20, ";");
        Check.says("| 'handover' n (1 to 50) ';'");
        range("drivers 1;handover ", 1, 50, ";");
    }

    private static void numbersOfCommands() {
        Check.says("clause: 'command' NAME class 'time' n (1 to 50) ['result' sum] ('set' register (0 to 7) '=' sum)*"
                + " ('keep' variable (0 to 3) '=' sum)* ';'");
        range("drivers 1;command a pure time ", 1, 50, ";");
        range("drivers 1;command a check 1=1 time ", 1, 50, ";");
        range(START + "set ", 0, 7, "=1;");
        range(START + "set 7=1 set ", 0, 7, "=1;");
        range(START + "keep ", 0, 3, "=1;");
        range(START + "result 1 set 1=1 keep 3=1 keep ", 0, 3, "=1;");
        Check.says("operand: number (0 to 65535) | 'reg' n (0 to 7) | 'var' n (0 to 3) | 'arg' | 'res' | '(' sum ')'");
        range(START + "result ", 0, 65535, ";");
        range(START + "set 0=1*", 0, 65535, ";");
        range(START + "keep 0=(1-", 0, 65535, ");");
        range(CHECK, 0, 65535, "=1 time 1;");
        range(CHECK + "1<", 0, 65535, " time 1;");
        range(START + "result reg ", 0, 7, ";");
        range(START + "set 0=reg ", 0, 7, ";");
        range(CHECK + "reg ", 0, 7, "=1 time 1;");
        range(START + "result var ", 0, 3, ";");
        range(START + "set 0=var ", 0, 3, ";");
        range(START + "keep 0=var ", 0, 3, ";");
    }

    private static void delayRange() {
        Check.says("| 'delay' first (1 to 100) greatest (the first to 1000) ';'");
        range("drivers 1;delay ", 1, 100, " 1000;");
        for (int first : new int[] {1, 2, 50, 99, 100}) {
            range("drivers 1;delay " + first + " ", first, 1000, ";");
        }
        Check.rejects("drivers 1;delay 5;", 1, 17);
        Check.rejects("drivers 1;delay 5 6 7;", 1, 20);
        Check.rejects("drivers 1;delay 101 100;", 2, 16);
        Check.rejects("drivers 1;delay 0 0;", 2, 16);
    }

    private static void wrongForms() {
        Check.says("text: 'drivers' n (1 to 4) ';' clause*");
        Check.accepts("drivers 1;", 0);
        Check.rejects("calm 7;drivers 1;", 1, 0);
        Check.rejects("drivers 1;drivers 1;", 1, 10);
        Check.rejects("drivers 1;;", 1, 10);
        Check.rejects("drivers 1;calm 7;;", 1, 17);
        Check.rejects("drivers;", 1, 7);
        Check.rejects("drivers 1 calm 7;", 1, 10);
        Check.rejects("drivers 1;time 7;", 1, 10);
        Check.rejects("drivers 1;pure;", 1, 10);
        Check.says("clause: 'command' NAME class 'time' n (1 to 50) ['result' sum] ('set' register (0 to 7) '=' sum)*"
                + " ('keep' variable (0 to 3) '=' sum)* ';'");
        Check.rejects("drivers 1;command a pure;", 1, 24);
        Check.rejects("drivers 1;command a pure result 1;", 1, 25);
        Check.rejects(START + "keep 0=1 set 0=1;", 1, START.length() + 9);
        Check.rejects(START + "set 0=1 result 1;", 1, START.length() + 8);
        Check.rejects(START + "result 1 result 1;", 1, START.length() + 9);
        Check.rejects(START + "set 0 1;", 1, START.length() + 6);
        Check.rejects(START + "set=1;", 1, START.length() + 3);
        Check.rejects(START + "time 1;", 1, START.length());
        Check.accepts(START + "set 0=1 set 0=1 set 0=1 keep 0=1 keep 0=1 keep 0=1;", 1);
        Check.says("class: 'pure' | 'again' | 'once' | 'check' test");
        Check.rejects("drivers 1;command a time 1;", 1, 20);
        Check.rejects("drivers 1;command a pure again time 1;", 1, 25);
        Check.rejects("drivers 1;command a pure 1=1 time 1;", 1, 25);
        Check.rejects("drivers 1;command a check time 1;", 1, 26);
        Check.rejects("drivers 1;command a some time 1;", 1, 20);
    }

    /** Each quoted word at the start of a clause, as a class, as an operand, and behind a command's parts. */
    private static void everyWordInItsPlace() {
        for (String word : QUOTED.split(" ")) {
            if (!isOneOf(word, "command delay calm streak poison every handover")) {
                Check.rejects("drivers 1;" + word + " 5;", 1, 10);
                Check.rejects("drivers 1;" + word + " a pure time 1;", 1, 10);
            }
            if (isOneOf(word, "pure again once")) {
                Check.accepts("drivers 1;command a " + word + " time 1;", 1);
            } else if (!word.equals("check")) {
                Check.rejects("drivers 1;command a " + word + " time 1;", 1, 20);
            }
            if (!isOneOf(word, "reg var arg")) {
                Check.rejects(START + "result " + word + " 1;", 1, START.length() + 7);
            }
            if (!isOneOf(word, "reg arg not")) {
                Check.rejects(CHECK + word + " 1=1 time 1;", 1, CHECK.length());
            }
            if (!isOneOf(word, "result set keep")) {
                Check.rejects(START + word + " 0=1;", 1, START.length());
            }
            if (!word.equals("drivers")) {
                Check.rejects(word + " 1;", 1, 0);
            }
            if (!word.equals("time")) {
                Check.rejects("drivers 1;command a pure " + word + " 1;", 1, 25);
            }
            if (!isOneOf(word, "and or time")) {
                Check.rejects(CHECK + "1=1 " + word + " 1=1 time 1;", 1, CHECK.length() + 4);
            }
        }
    }

    private static boolean isOneOf(String word, String words) {
        return (" " + words + " ").contains(" " + word + " ");
    }

    private static void wrongTests() {
        Check.says("test: conjunction ('or' conjunction)*");
        Check.accepts(CHECK + "1=1" + " or 1=1".repeat(100) + " time 1;", 1);
        Check.rejects(CHECK + "1=1 or time 1;", 1, CHECK.length() + 7);
        Check.rejects(CHECK + "or 1=1 time 1;", 1, CHECK.length());
        Check.says("conjunction: factor ('and' factor)*");
        Check.accepts(CHECK + "1=1" + " and 1=1".repeat(100) + " time 1;", 1);
        Check.rejects(CHECK + "1=1 and or 1=1 time 1;", 1, CHECK.length() + 8);
        Check.rejects(CHECK + "1=1 1=1 time 1;", 1, CHECK.length() + 4);
        Check.says("factor: 'not' factor | '[' test ']' | sum ('<' | '=' | '>') sum");
        Check.rejects(CHECK + "not time 1;", 1, CHECK.length() + 4);
        Check.rejects(CHECK + "1 time 1;", 1, CHECK.length() + 2);
        Check.rejects(CHECK + "1+2 time 1;", 1, CHECK.length() + 4);
        Check.rejects(CHECK + "1= time 1;", 1, CHECK.length() + 3);
        Check.rejects(CHECK + "1=1=1 time 1;", 1, CHECK.length() + 3);
        Check.rejects(CHECK + "1<=1 time 1;", 1, CHECK.length() + 2);
        Check.rejects(CHECK + "=1 time 1;", 1, CHECK.length());
    }

    private static void wrongSums() {
        int at = START.length();
        Check.says("sum: product (('+' | '-') product)*");
        Check.accepts(START + "result 1" + "+1-1".repeat(200) + ";", 1);
        Check.rejects(START + "result 1+;", 1, at + 9);
        Check.rejects(START + "result +1;", 1, at + 7);
        Check.rejects(START + "result -1;", 1, at + 7);
        Check.rejects(START + "result 1--1;", 1, at + 9);
        Check.rejects(START + "result 1=1;", 1, at + 8);
        Check.rejects(START + "result;", 1, at + 6);
        Check.says("product: operand ('*' operand)*");
        Check.accepts(START + "result 1" + "*1".repeat(400) + ";", 1);
        Check.rejects(START + "result 1*;", 1, at + 9);
        Check.rejects(START + "result *1;", 1, at + 7);
        Check.rejects(START + "result 1*+1;", 1, at + 9);
        Check.says("operand: number (0 to 65535) | 'reg' n (0 to 7) | 'var' n (0 to 3) | 'arg' | 'res' | '(' sum ')'");
        Check.rejects(START + "result ();", 1, at + 8);
        Check.rejects(START + "result (1;", 1, at + 9);
        Check.rejects(START + "result 1);", 1, at + 8);
        Check.rejects(START + "result reg;", 1, at + 10);
        Check.rejects(START + "result reg(1);", 1, at + 10);
        Check.rejects(START + "result arg 1;", 1, at + 11);
        Check.rejects(START + "result 1 arg;", 1, at + 9);
        Check.rejects(START + "result set;", 1, at + 7);
        Check.rejects(START + "result name;", 1, at + 7);
    }

    private static void brackets() {
        Check.says("The bytes [ and ] are tokens, too.");
        Check.accepts(CHECK + "[1=1]time 1;", 1);
        Check.accepts(CHECK + "[[1=1]or[1=2]]and[not[1=1]]time 1;", 1);
        Check.rejects(CHECK + "[1=1 time 1;", 1, CHECK.length() + 5);
        Check.rejects(CHECK + "1=1] time 1;", 1, CHECK.length() + 3);
        Check.rejects(CHECK + "[1=1) time 1;", 1, CHECK.length() + 4);
        Check.rejects(CHECK + "(1=1) time 1;", 1, CHECK.length() + 2);
        Check.rejects(CHECK + "[1]=1 time 1;", 1, CHECK.length() + 2);
        Check.rejects(CHECK + "[] time 1;", 1, CHECK.length() + 1);
        Check.rejects(CHECK + "1=[1] time 1;", 1, CHECK.length() + 2);
        Check.rejects(START + "result [1];", 1, START.length() + 7);
    }

    private static void places() {
        Check.says("'res' is allowed only after 'set' and 'keep'; 'reg' is not allowed after 'keep' (so that the memory"
                + " can be restored), and 'var' is not allowed in the test of 'check'.");
        int at = START.length();
        Check.accepts(START + "set 0=res set 1=(2*res);", 1);
        Check.accepts(START + "keep 0=res keep 1=(2*res);", 1);
        Check.rejects(START + "result res;", 1, at + 7);
        Check.rejects(START + "result 1+(2*res);", 1, at + 12);
        Check.rejects(CHECK + "res=1 time 1;", 1, CHECK.length());
        Check.rejects(CHECK + "1=1 and not [2=(res)] time 1;", 1, CHECK.length() + 16);
        Check.accepts(START + "result reg 0 set 0=reg 1;", 1);
        Check.accepts(CHECK + "reg 0=reg 7 time 1;", 1);
        Check.rejects(START + "keep 0=reg 0;", 1, at + 7);
        Check.rejects(START + "set 0=reg 0 keep 0=1 keep 1=(1+reg 0);", 1, at + 31);
        Check.accepts(START + "result var 0 set 0=var 1 keep 0=var 2;", 1);
        Check.rejects(CHECK + "var 0=1 time 1;", 1, CHECK.length());
        Check.rejects(CHECK + "1=1 or 1<2*var 0 time 1;", 1, CHECK.length() + 11);
        Check.accepts(CHECK + "1=1 time 1 result var 0;command b pure time 1 set 0=res;command c check 1=1 time 1;", 3);
        Check.rejects(START + "set 0=res;command b pure time 1 result res;", 1, at + 39);
        Check.rejects(START + "keep 0=1;command b check var 0=1 time 1;", 1, at + 25);
        Check.accepts(START + "keep 0=1;command b pure time 1 result reg 0;", 2);
    }

    private static void fromLeftToRight() {
        Check.says("Operators of one kind are evaluated from left to right.");
        String[] sums = {"10-3-2", "10-3+2", "10-(3-2)", "2*3*4", "10-2*3", "2*3-10", "(10-2)*3", "20-2*3-4*2-1",
            "1+2*3+4", "10-(3+2)-1"};
        int[] values = {5, 9, 9, 24, 4, -4, 24, 5, 11, 4};
        for (int n = 0; n < sums.length; n++) {
            DriverHost host = Check.loaded(START + "result " + sums[n] + ";");
            host.submit(0, 0, 0, 0, 0);
            host.run(1);
            Check.due(sums[n], values[n], () -> host.request(0, 8));
        }
        String[] tests = {"1=1 or 1=2 and 1=2", "[1=1 or 1=2] and 1=2", "1=2 and 1=2 or 1=1", "not 1=2 or 1=1",
            "not [1=2 or 1=1]", "not 1=1 or 1=1", "not 1=2 and 1=2", "1=2 or 1=2 or 1=1", "1=1 and 1=1 and 1=2",
            "1<2", "2<2", "2=2", "2>2", "3>2"};
        int[] holds = {1, 0, 1, 1, 0, 1, 0, 1, 0, 1, 0, 1, 0, 1};
        for (int n = 0; n < tests.length; n++) {
            DriverHost host = Check.loaded(CHECK + tests[n] + " time 2;");
            host.submit(0, 0, 0, 0, 0);
            host.run(1);
            Check.due(tests[n], holds[n], () -> host.decision(0));
        }
    }

    private static void lastOccurrence() {
        Check.says("If a clause other than 'command' occurs more than once, the last occurrence counts; without them"
                + " the first delay is 2 and the greatest 32, the calm time 20, the streak limit 5, the poison number"
                + " 3, the snapshot interval 4, and the handover time 1.");
        behaves("drivers 1;delay 9 99;calm 9;streak 9;poison 9;every 9;handover 9;command a again time 1;"
                + "delay 4 5;calm 3;streak 2;poison 2;every 3;handover 6;", new int[] {4, 5}, 3, 2, 2, 3, 6);
        behaves("drivers 1;delay 4 5;calm 3;streak 2;poison 2;every 3;handover 6;command a again time 1;"
                + "delay 1 1;calm 30;streak 3;poison 4;every 1;handover 50;", new int[] {1, 1, 1}, 30, 3, 4, 1, 50);
        DriverHost dead = Check.loaded("drivers 1;streak 5;streak 0;");
        Check.due("the last streak limit", 2, () -> dead.kill(0));
    }

    private static void withoutClauses() {
        int[] delays = {2, 4, 8, 16, 32};
        behaves("drivers 1;command a again time 1;", delays, 20, 5, 3, 4, 1);
        behaves("drivers 1;command a again time 1;calm 21;", delays, 21, 5, 3, 4, 1);
        behaves("drivers 1;command a again time 1;streak 6;", new int[] {2, 4, 8, 16, 32, 32}, 20, 6, 3, 4, 1);
        behaves("drivers 1;command a again time 1;poison 4;", delays, 20, 5, 4, 4, 1);
        behaves("drivers 1;command a again time 1;every 5;", delays, 20, 5, 3, 5, 1);
        behaves("drivers 1;command a again time 1;handover 2;", delays, 20, 5, 3, 4, 2);
        behaves("drivers 1;command a again time 1;delay 3 7;", new int[] {3, 6, 7, 7, 7}, 20, 5, 3, 4, 1);
    }

    /** Tells the values of a text by what its driver does. */
    private static void behaves(String text, int[] delays, int calm, int limit, int poison, int every, int handover) {
        DriverHost host = Check.loaded(text);
        for (int delay : delays) {
            int until = host.clock() + 1 + delay;
            host.kill(0);
            Check.due("a delay of " + text, until, () -> host.downUntil(0));
            host.run(delay + 2);
        }
        DriverHost calmed = Check.loaded(text);
        calmed.kill(0);
        calmed.run(1 + delays[0] + calm - 1);
        Check.due("one tick before the calm time of " + text, 1, () -> calmed.streak(0));
        calmed.run(1);
        Check.due("the calm time of " + text, 0, () -> calmed.streak(0));
        DriverHost dying = Check.loaded(text);
        for (int crash = 1; crash <= limit; crash++) {
            Check.due("crash " + crash + " of " + text, 1, () -> dying.kill(0));
            dying.run(dying.downUntil(0) + 1 - dying.clock());
        }
        Check.due("the streak limit of " + text, 2, () -> dying.kill(0));
        DriverHost poisoned = Check.loaded(text);
        poisoned.submit(0, 0, 0, 0, 0);
        poisoned.plan(0, 1, poison - 1);
        poisoned.run(500);
        Check.due("one crash less than the poison number of " + text, 2, () -> poisoned.request(0, 6));
        int request = poisoned.submit(0, 0, 0, 0, 0);
        poisoned.plan(request, 1, poison);
        poisoned.run(500);
        Check.due("the poison number of " + text, 3, () -> poisoned.request(request, 7));
        DriverHost logging = Check.loaded(text);
        for (int n = 0; n < every; n++) {
            logging.submit(0, 0, 0, 0, 0);
        }
        logging.run(every - 1);
        Check.due("one less than the snapshot interval of " + text, 0, () -> logging.total(6));
        logging.run(1);
        Check.due("the snapshot interval of " + text, 1, () -> logging.total(6));
        Check.due("the handover time of " + text, every + handover, () -> logging.replace(0));
    }

    private static void firstError() {
        Check.says("The first error along the text is reported, at the first byte of its token; if several codes apply"
                + " to one token, the smallest one.");
        Check.rejects("drivers 5;calm 0;\u00e9", 2, 8);
        Check.rejects("drivers 1;calm 0;drivers 5;", 2, 15);
        Check.rejects("drivers 1;\u00e9calm 0;", 1, 10);
        Check.rejects("drivers 1;calm 00001001;", 2, 15);
        Check.rejects("drivers 1;calmness 5;", 1, 10);
        Check.rejects("drivers 1;command a pure time 51", 2, 30);
        Check.rejects("drivers 1;command a pure time 1;command a pure time 99;", 4, 40);
        Check.rejects("drivers 1;command a pure time 99;command a pure time 1;", 2, 30);
        Check.rejects("drivers 1;command a pure time 1 result 65536+res;", 2, 39);
        Check.rejects("drivers 1;command a pure time 1 result res+65536;", 1, 39);
        Check.rejects("drivers 1;command a pure time 1 result (((((((65536;", 3, 45);
        Check.rejects("drivers 1;command a pure time 1 result ((((((65536(;", 2, 45);
    }

    private static void smallestCode() {
        String eight = commands(8);
        Check.rejects(eight + "calm command;", 1, eight.length() + 5);
        Check.rejects(eight + "calm 5 command z pure time 1;", 1, eight.length() + 7);
        Check.rejects("drivers command;", 1, 8);
        Check.rejects("drivers 1 70000;", 1, 10);
        Check.rejects("drivers 1;70000;", 1, 10);
        Check.rejects("drivers 1;command 70000 pure time 1;", 1, 18);
        Check.rejects("drivers 1;calm 5 70000;", 1, 17);
        Check.rejects(START + "result 1 70000;", 1, START.length() + 9);
        Check.rejects(START + "result ((((((1(;", 1, START.length() + 14);
        Check.rejects(START + "result ((((((1[;", 1, START.length() + 14);
        Check.rejects(START + "result ((((((not 1;", 1, START.length() + 13);
        Check.rejects(CHECK + "[[[[[[1=1[ time 1;", 1, CHECK.length() + 9);
        Check.rejects(CHECK + "[[[[[[1=1 not time 1;", 1, CHECK.length() + 10);
        Check.rejects(CHECK + "((((((1+[1", 1, CHECK.length() + 8);
        Check.rejects(START + ";command b a time 1;", 1, START.length() + 11);
        Check.rejects(START + ";a", 1, START.length() + 1);
    }

    private static void earlyEnd() {
        Check.says("1 The token is invalid or not allowed here, or the text ends too early (the position is then the"
                + " length of the text).");
        String text = "drivers 2 ; command a check [ not reg 1 = ( arg + 2 ) ] or 1 < 2 time 1 result var 0 * 3 set 0 ="
                + " res set 1 = 5 keep 0 = 1 ; delay 1 2 ; calm 3 ; streak 4 ; poison 5 ; every 6 ; handover 7 ;";
        Check.accepts(text, 1);
        for (int end = 0; end < text.length(); end++) {
            String part = text.substring(0, end);
            boolean inside = end > 0 && Character.isLetter(text.charAt(end))
                    && Character.isLetter(text.charAt(end - 1));
            if (part.trim().endsWith(";")) {
                Check.accepts(part, part.contains("keep") ? 1 : 0);
            } else if (!inside) {
                Check.rejects(part, 1, end);
                Check.rejects(part + " \n\n", 1, end + 3);
            }
        }
        Check.rejects("", 1, 0);
        Check.rejects("drivers 1;command a pure time 1" + " ".repeat(869), 1, 900);
        for (String end : new String[] {"calm", "calm 1000", "command", "command name", "command name pure"}) {
            Check.rejects("drivers 1;" + " ".repeat(890 - end.length()) + end, 1, 900);
        }
        Check.accepts("drivers 1;" + " ".repeat(883) + "calm 7;", 0);
    }

    /** What stands in the buffer behind the length does not count. */
    private static void bytesBehindTheLength() {
        String[] texts = {"drivers 1;calm 10001;", "drivers 1;calmx", "drivers 1;command arg", "drivers 41;"};
        int[] lengths = {19, 14, 20, 9};
        for (int n = 0; n < texts.length; n++) {
            int length = lengths[n];
            DriverHost host = new DriverHost();
            Check.feed(host, texts[n]);
            Check.due(length + " bytes of " + texts[n], -11, () -> host.load(length));
            Check.due("errorPosition", length, host::errorPosition);
        }
    }

    private static void outOfRange() {
        Check.says("2 A number that is out of range.");
        String[] before = {"drivers ", "drivers 1;calm ", "drivers 1;streak ", "drivers 1;poison ", "drivers 1;every ",
            "drivers 1;handover ", "drivers 1;delay ", "drivers 1;delay 7 ", "drivers 1;command a pure time ",
            START + "set ", START + "keep ", START + "result reg ", START + "result var ", START + "result "};
        for (String start : before) {
            Check.rejects(start + "65536", 2, start.length());
            Check.rejects(start + "0000065536;", 2, start.length());
            Check.rejects(start + "65536\u00e9", 2, start.length());
            Check.rejects(start + "9".repeat(30), 2, start.length());
        }
    }

    private static String commands(int count) {
        StringBuilder text = new StringBuilder("drivers 1;");
        for (int n = 0; n < count; n++) {
            text.append("command ").append((char) ('a' + n)).append(" pure time 1;");
        }
        return text.toString();
    }

    private static void ninthCommand() {
        Check.says("3 The keyword of the ninth command; a 'not', '[' or '(' that would be the seventh one open at the"
                + " same time in a command.");
        String eight = commands(8);
        int at = eight.length();
        Check.accepts(commands(7), 7);
        Check.accepts(eight, 8);
        Check.accepts(eight + "calm 1;streak 2;", 8);
        Check.rejects(commands(9), 3, at);
        Check.rejects(eight + "command", 3, at);
        Check.rejects(eight + "command \u00e9", 3, at);
        Check.rejects(eight + "command a", 3, at);
        Check.rejects(eight + "calm 1; command i pure time 1;", 3, at + 8);
        Check.rejects(eight + "calm 0; command i pure time 1;", 2, at + 5);
    }

    private static void seventhOpen() {
        int sum = START.length() + 7;
        int test = CHECK.length();
        Check.accepts(START + "result ((((((1))))));", 1);
        Check.rejects(START + "result (((((((1)))))));", 3, sum + 6);
        Check.accepts(CHECK + "[[[[[[1=1]]]]]] time 1;", 1);
        Check.rejects(CHECK + "[[[[[[[1=1]]]]]]] time 1;", 3, test + 6);
        Check.accepts(CHECK + "not not not not not not 1=1 time 1;", 1);
        Check.rejects(CHECK + "not not not not not not not 1=1 time 1;", 3, test + 24);
        Check.accepts(CHECK + "not[not[((1))=((1))]] time 1;", 1);
        Check.rejects(CHECK + "not[not[(((1)))=1]] time 1;", 3, test + 10);
        Check.rejects(CHECK + "not[not[1=(((1)))]] time 1;", 3, test + 12);
        Check.rejects(CHECK + "[[[[[[not 1=1", 3, test + 6);
        Check.rejects(CHECK + "[[[[[[(1", 3, test + 6);
        Check.rejects(CHECK + "not not not not not not[", 3, test + 23);
        Check.rejects(CHECK + "not not not not not not(", 3, test + 23);
        for (String part : new String[] {"set 0=", "keep 0=", "set 0=1 set 1=", "result 1 keep 2="}) {
            Check.accepts(START + part + "((((((1))))))*((((((1))))));", 1);
            Check.rejects(START + part + "((((((1))))))*(((((((1)))))));", 3,
                    START.length() + part.length() + 14 + 6);
        }
        Check.accepts(START + "result (1)+(2)+(3)+(4)+(5)+(6)+(7)+(8);", 1);
        Check.accepts(START + "result ((((((1)+(2))+(3)))));", 1);
        Check.rejects(START + "result ((((((1)+(2)+((3", 3, sum + 14);
        Check.accepts(CHECK + "[[[[[[1=1]]]]]] time 1 result ((((((1)))))) set 0=((((((1)))))) keep 0=((((((1))))));"
                + "command b check [[[[[[1=1]]]]]] time 1;", 2);
    }

    private static void notIsOpenUntilTheEndOfItsFactor() {
        Check.says("A 'not' is open until the end of its factor.");
        int test = CHECK.length();
        Check.accepts(CHECK + "not not not not not not 1=1 and not not not not not not 1=1 time 1;", 1);
        Check.accepts(CHECK + "not not not not not not 1=1 or ((((((1))))))=1 time 1;", 1);
        Check.accepts(CHECK + "not not not not not (1)=(1) time 1;", 1);
        Check.rejects(CHECK + "not not not not not ((1))=(1) time 1;", 3, test + 21);
        Check.rejects(CHECK + "not not not not not 1=((1)) time 1;", 3, test + 23);
        Check.accepts(CHECK + "not not not[not not 1=1 and not not 1=1] time 1;", 1);
        Check.rejects(CHECK + "not not not[not not 1=1 and not not not 1=1] time 1;", 3, test + 36);
        Check.accepts(CHECK + "not[1=1] and [[[[[[1=1]]]]]] time 1;", 1);
        Check.rejects(CHECK + "not[1=1 and [[[[[1=1", 3, test + 16);
        Check.accepts(CHECK + "not not not not not not 1=1 time 1 result ((((((1))))));", 1);
    }

    private static void sameName() {
        Check.says("4 The NAME of a command that an earlier command has.");
        Check.rejects("drivers 1;command a pure time 1;command a", 4, 40);
        Check.rejects("drivers 1;command a pure time 1;command a once time 99;", 4, 40);
        Check.accepts("drivers 1;command a pure time 1;command aa pure time 1;command b pure time 1;", 3);
        Check.rejects("drivers 1;command ab pure time 1;command ba pure time 1;command ab pure time 1;", 4, 64);
        Check.rejects("drivers 1;command ab pure time 1;command ba pure time 1;command\nba pure time 1;", 4, 64);
        String longName = "q".repeat(300);
        Check.rejects("drivers 1;command " + longName + " pure time 1;command " + longName + " pure time 1;", 4, 339);
        Check.accepts("drivers 1;command " + longName + " pure time 1;command " + longName + "q pure time 1;", 2);
        Check.accepts("drivers 1;command " + longName + "a pure time 1;command " + longName + "b pure time 1;", 2);
        String eight = commands(7) + "command ";
        Check.rejects(eight + "g pure time 1;", 4, eight.length());
        Check.accepts(eight + "h pure time 1;", 8);
        DriverHost host = Check.loaded("drivers 1;command a pure time 1;");
        Check.due("a name of the text before is free", 1, () -> Check.load(host, "drivers 1;command a once time 1;"));
    }
}
