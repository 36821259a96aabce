/** Section 8 of the document, sentence by sentence: queries. */
public final class Section8Test {
    private static final String[] PROPERTIES = {"number", "driver", "kind", "class", "argument", "priority", "state",
        "failure", "result", "executions", "crashes"};

    private Section8Test() {
    }

    public static void main(String[] args) {
        length();
        tokens();
        everyByte();
        forms();
        numbers();
        everyWordInItsPlace();
        properties();
        connectives();
        errorCodeOne();
        firstError();
        openOnes();
        Check.close("Section8Test");
    }

    private static void rejects(String text, int code, int position) {
        DriverHost host = new DriverHost();
        Check.due("query " + text, -1000000000 - code, () -> Check.query(host, text));
        Check.due("errorPosition after " + text, position, host::errorPosition);
    }

    private static void accepts(String text) {
        DriverHost host = new DriverHost();
        Check.due("query " + text, text.trim().startsWith("many") ? 0 : -1, () -> Check.query(host, text));
        Check.due("errorPosition after " + text, -1, host::errorPosition);
    }

    private static String filled(String start, String end, int length) {
        return start + " ".repeat(length - start.length() - end.length()) + end;
    }

    private static void length() {
        Check.says("The text of a query has at most 200 bytes and the tokens of section 7.");
        accepts(filled("many", "1=1", 199));
        accepts(filled("many", "1=1", 200));
        rejects(filled("many", "1=", 200), 1, 200);
        rejects(filled("many", "1=100000", 200), 2, 194);
        DriverHost host = new DriverHost();
        Check.feed(host, filled("many", "1=1", 201));
        Check.idle(host, "201 bytes", "throws.IllegalArgumentException", () -> host.query(201));
        Check.due("the buffer is left", 240, () -> host.feed(0, 0, 0, 0, 0));
        Check.due("its first 200 bytes end too early", -1000000001, () -> host.query(200));
        Check.due("at their end", 200, host::errorPosition);
        String longest = "many " + "1=1 or ".repeat(27) + "1=1or 1";
        rejects(longest.substring(0, 200), 1, 200);
        String fits = "many 1<2" + " or 1=1".repeat(27) + "   ";
        Check.due("its length", 200, fits::length);
        accepts(fits);
    }

    private static void tokens() {
        accepts("many1=1and2>1or3<4");
        accepts("first\n1\n=\n1\n");
        accepts("many not(1=1)");
        accepts("many 00000000000000000000000000000000000000000000000000000000000000000000000000000000000000000001=1");
        rejects("manynumber=1", 1, 0);
        rejects("many numberx=1", 1, 5);
        rejects("many 1=1and1=1and", 1, 17);
        rejects("many 1 1=1", 1, 7);
    }

    private static void everyByte() {
        for (int value = 0; value < 256; value++) {
            String sign = String.valueOf((char) value);
            boolean blank = value == 32 || value == 10;
            boolean letter = value >= 'a' && value <= 'z';
            boolean digit = value >= '0' && value <= '9';
            if (blank) {
                accepts("many" + sign + "1=1" + sign);
            } else if (digit) {
                accepts("many 1=1" + sign);
                rejects("many 1=1 " + sign, 1, 9);
            } else {
                rejects("many 1=1" + sign, 1, 8);
                rejects(sign + "many 1=1", 1, 0);
            }
            if (value == '<' || value == '=' || value == '>') {
                accepts("many 1" + sign + "1");
            } else if (!blank && !digit) {
                rejects("many 1" + sign + "1", 1, 6);
            }
            if (!blank && !letter && !digit && value != '(') {
                rejects("many " + sign + "1=1", 1, 5);
            }
        }
    }

    private static void forms() {
        Check.says("query: ('many' | 'first') criterion");
        DriverHost host = Check.loaded("drivers 1;command a pure time 1;");
        Check.due("many of none", 0, () -> Check.query(host, "many 1=1"));
        Check.due("first of none", -1, () -> Check.query(host, "first 1=1"));
        for (int n = 0; n < 100; n++) {
            host.submit(0, 0, n, 0, 0);
        }
        Check.due("many of all", 100, () -> Check.query(host, "many 1=1"));
        Check.due("many of none of all", 0, () -> Check.query(host, "many 1=2"));
        Check.due("the first of all", 0, () -> Check.query(host, "first 1=1"));
        Check.due("the last of all", 99, () -> Check.query(host, "first argument>98"));
        Check.due("behind the last", -1, () -> Check.query(host, "first argument>99"));
        Check.due("the smallest of several", 41, () -> Check.query(host, "first number>40"));
        rejects("", 1, 0);
        rejects("1=1", 1, 0);
        rejects("many", 1, 4);
        rejects("first", 1, 5);
        rejects("many first 1=1", 1, 5);
        rejects("many 1=1;", 1, 8);
        rejects("or 1=1", 1, 0);
        rejects("drivers 1;", 1, 0);
    }

    private static void numbers() {
        Check.says("value: a number (0 to 99999), or one of these properties of a request: 'number', 'driver', 'kind'"
                + " (its command), 'class', 'argument', 'priority', 'state', 'failure' (0 if it has not failed),"
                + " 'result' (0 if it is not completed), 'executions', 'crashes'");
        for (String number : new String[] {"0", "99999", "0099999", "1"}) {
            accepts("many " + number + "=1");
            accepts("many 1=" + number);
        }
        for (String number : new String[] {"100000", "00100000", "999999", "2147483648", "4294967296", "4294967297",
            "99999999999999999999999999999"}) {
            rejects("many " + number + "=1", 2, 5);
            rejects("many 1=" + number, 2, 7);
            rejects("many 1=1 and not(1<" + number + ")", 2, 19);
        }
        rejects("many -1=1", 1, 5);
        rejects("many 1=-1", 1, 7);
        rejects("many 1+1=2", 1, 6);
        rejects("many arg=1", 1, 5);
        rejects("many time=1", 1, 5);
        rejects("many clock=1", 1, 5);
    }

    private static void everyWordInItsPlace() {
        String others = "drivers command time set keep delay calm streak poison every handover pure again once check or"
                + " and reg var arg res many first";
        for (String word : others.split(" ")) {
            rejects("many " + word + "=1", 1, 5);
            rejects("many 1=" + word, 1, 7);
            if (!word.equals("many") && !word.equals("first")) {
                rejects(word + " 1=1", 1, 0);
            }
            if (!word.equals("or") && !word.equals("and")) {
                rejects("many 1=1 " + word + " 1=1", 1, 9);
            }
        }
        for (String word : PROPERTIES) {
            accepts("many " + word + "=" + word);
            rejects(word + " 1=1", 1, 0);
            rejects("many 1=1 " + word + " 1=1", 1, 9);
        }
    }

    private static void properties() {
        DriverHost host = Check.loaded("drivers 4;command p pure time 1;command c check 1=2 time 1 result arg;"
                + "command o once time 50;delay 1 1;poison 2;");
        host.submit(3, 1, 99999, 3, 0);
        host.plan(0, 2, 1);
        host.submit(2, 1, 5, 2, 0);
        host.plan(1, 2, 9);
        host.submit(1, 2, -5, 1, 0);
        host.run(10);
        host.submit(0, 0, Check.LEAST, 0, 0);
        int[][] values = {{0, 3, 1, 3, 99999, 3, 2, 0, 99999, 2, 1}, {1, 2, 1, 3, 5, 2, 3, 3, 0, 2, 2},
            {2, 1, 2, 2, -5, 1, 1, 0, 0, 0, 0}, {3, 0, 0, 0, Check.LEAST, 0, 0, 0, 0, 0, 0}};
        for (int property = 0; property < PROPERTIES.length; property++) {
            for (int number : new int[] {0, 1, 2, 3, 4, 5, 99998, 99999}) {
                int[] counts = new int[3];
                for (int[] request : values) {
                    counts[Integer.compare(request[property], number) + 1]++;
                }
                String word = PROPERTIES[property];
                Check.due(word + "<" + number, counts[0], () -> Check.query(host, "many " + word + "<" + number));
                Check.due(word + "=" + number, counts[1], () -> Check.query(host, "many " + word + "=" + number));
                Check.due(word + ">" + number, counts[2], () -> Check.query(host, "many " + word + ">" + number));
                Check.due(number + "<" + word, counts[2], () -> Check.query(host, "many " + number + "<" + word));
            }
            for (int request = 0; request < values.length; request++) {
                int value = values[request][property];
                if (value >= 0) {
                    int number = request;
                    String criterion = "number=" + number + " and " + PROPERTIES[property] + "=" + value;
                    Check.due(criterion, number, () -> Check.query(host, "first " + criterion));
                }
            }
        }
        Check.due("argument<result", 2, () -> Check.query(host, "many argument<result"));
        Check.due("argument>result", 1, () -> Check.query(host, "many argument>result"));
    }

    private static void counts(String... criteriaAndCounts) {
        DriverHost host = Check.loaded("drivers 1;command a pure time 1;");
        for (int n = 0; n < 8; n++) {
            host.submit(0, 0, n, 0, 0);
        }
        for (int n = 0; n < criteriaAndCounts.length; n += 2) {
            String criterion = criteriaAndCounts[n];
            int count = Integer.parseInt(criteriaAndCounts[n + 1]);
            Check.due(criterion, count, () -> Check.query(host, "many " + criterion));
        }
    }

    private static void connectives() {
        Check.says("criterion: part ('or' part)*");
        counts("argument=1 or argument=2", "2", "argument=1 or argument=2 or argument=5", "3",
                "argument=1 or argument=2 and argument=3", "1", "argument=3 and argument=4 or argument=1", "1");
        rejects("many 1=1 or", 1, 11);
        rejects("many or 1=1", 1, 5);
        Check.says("part: atom ('and' atom)*");
        counts("argument=1 and argument=1", "1", "argument>1 and argument<6 and argument>3", "2",
                "(argument=1 or argument=3) and argument=3", "1");
        rejects("many 1=1 and", 1, 12);
        rejects("many 1=1 and or 1=1", 1, 13);
        rejects("many 1=1 1=1", 1, 9);
        Check.says("atom: 'not' atom | '(' criterion ')' | value ('<' | '=' | '>') value");
        counts("not argument=1", "7", "not not argument=1", "1", "not argument=1 or argument=1", "8",
                "not (argument=1 or argument=2)", "6", "not argument=1 and argument<4", "3",
                "not(argument=1 and argument=2)", "8", "(((argument<3)))", "3", "3>argument", "3", "3<argument", "4");
        rejects("many not and 1=1", 1, 9);
        rejects("many ()", 1, 6);
        rejects("many 1", 1, 6);
        rejects("many 1<=1", 1, 7);
    }

    private static void errorCodeOne() {
        Check.says("Error codes are 1 and 2 of section 7, and 3 for a 'not' or '(' that would be the seventh one open"
                + " at the same time.");
        String text = "first not ( number = 1 or 2 > driver ) and 3 < state";
        accepts(text);
        for (int end = 0; end < text.length(); end++) {
            String part = text.substring(0, end);
            boolean inside = end > 0 && Character.isLetter(text.charAt(end))
                    && Character.isLetter(text.charAt(end - 1));
            if (!inside && !part.trim().endsWith(")")) {
                rejects(part, 1, end);
                rejects(part + "\n  ", 1, end + 3);
            }
        }
        rejects("many [1=1]", 1, 5);
        rejects("many 1=1 or or 1=1", 1, 12);
        rejects("many 1=1)", 1, 8);
        rejects("many (1=1", 1, 9);
        rejects("many (1)=1", 1, 7);
        rejects("many 1=(1)", 1, 7);
        rejects("many not", 1, 8);
        rejects("many 1 not=1", 1, 7);
        rejects("many 1==1", 1, 7);
        rejects("many 1=1=1", 1, 8);
    }

    private static void firstError() {
        rejects("many 100000=\u00e9", 2, 5);
        rejects("many \u00e9=100000", 1, 5);
        rejects("many 1=1 100000", 1, 9);
        rejects("many 100000 100000", 2, 5);
        rejects("many number 100000=1", 1, 12);
        rejects("many ((((((( 100000=1", 3, 11);
        rejects("many ((((((100000=1(", 2, 11);
    }

    private static void openOnes() {
        accepts("many ((((((1=1))))))");
        rejects("many (((((((1=1)))))))", 3, 11);
        accepts("many not not not not not not 1=1");
        rejects("many not not not not not not not 1=1", 3, 29);
        accepts("many not not not(((1=1)))");
        rejects("many not not not((((1=1))))", 3, 19);
        accepts("many not(not(not(1=1)))");
        rejects("many not(not(not(not 1=1)))", 3, 17);
        accepts("many not not not not not not 1=1 and((((((1=1))))))or not not not not not not 1=1");
        accepts("many (((((1=1)and(1=1))and(1=1))))and((((((1=1))))))");
        rejects("many (((((1=1)and(1=1)and((1=1)and((1=1", 3, 35);
        rejects("many ((((((1=1 and not 1=1", 3, 19);
        rejects("many ((((((1=1(", 1, 14);
        rejects("many ((((((1=not", 1, 13);
        rejects("many (((((((", 3, 11);
    }
}
