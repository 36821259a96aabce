/** Promise 43, and section 8: queries. */
public final class QueryTest {
    private QueryTest() {
    }

    public static void main(String[] args) {
        DriverHost host = prepared();
        properties(host);
        connectives(host);
        manyAndFirst(host);
        errors(host);
        brackets(host);
        lengths();
        wordsOfTheText(host);
        Check.close("QueryTest");
    }

    /**
     * Request 0 is completed at driver 0 with the result -3, request 1 failed with 2 at driver 1, request 2 is in
     * flight, and request 3 is queued.
     */
    private static DriverHost prepared() {
        DriverHost host = Check.loaded("drivers 2;command a again time 1 result 0-3;command o once time 1;"
                + "command l check 1=1 time 50;");
        host.submit(0, 0, 4, 0, 0);
        host.submit(1, 1, 100000, 1, 0);
        host.plan(1, 2, 1);
        host.run(10);
        host.submit(0, 2, -6, 2, 0);
        host.run(1);
        host.submit(0, 2, 99999, 3, 0);
        return host;
    }

    private static void many(DriverHost host, String criterion, int want) {
        Check.due("many " + criterion, want, () -> Check.query(host, "many " + criterion));
        Check.due("errorPosition after " + criterion, -1, host::errorPosition);
    }

    private static void properties(DriverHost host) {
        int[][] values = {{0, 0, 0, 1, 4, 0, 2, 0, -3, 1, 0}, {1, 1, 1, 2, 100000, 1, 3, 2, 0, 1, 1},
            {2, 0, 2, 3, -6, 2, 1, 0, 0, 0, 0}, {3, 0, 2, 3, 99999, 3, 0, 0, 0, 0, 0}};
        String[] names = {"number", "driver", "kind", "class", "argument", "priority", "state", "failure", "result",
            "executions", "crashes"};
        for (int property = 0; property < names.length; property++) {
            for (int number : new int[] {0, 1, 2, 3, 4, 5, 99999}) {
                int equal = 0;
                int less = 0;
                int greater = 0;
                for (int[] request : values) {
                    equal += request[property] == number ? 1 : 0;
                    less += request[property] < number ? 1 : 0;
                    greater += request[property] > number ? 1 : 0;
                }
                many(host, names[property] + "=" + number, equal);
                many(host, names[property] + "<" + number, less);
                many(host, names[property] + " > " + number, greater);
                many(host, number + ">" + names[property], less);
            }
        }
        many(host, "number=driver", 2);
        many(host, "argument<result", 1);
        many(host, "1=1", 4);
        many(host, "1>1", 0);
    }

    private static void connectives(DriverHost host) {
        many(host, "not state=2", 3);
        many(host, "not not state=2", 1);
        many(host, "state=2 or state=3", 2);
        many(host, "state=2 and state=3", 0);
        many(host, "state=2 or state=3 and driver=0", 1);
        many(host, "(state=2 or state=3)and driver=0", 1);
        many(host, "state=2 or state=1 and driver=1", 1);
        many(host, "(state=2 or state=1) and driver=1", 0);
        many(host, "not state=2 and driver=0", 2);
        many(host, "not (state=2 and driver=0)", 3);
        many(host, "not(state=2 or not driver=0)", 2);
        many(host, "number=0 or number=1 or number=3", 3);
        many(host, "number>0 and number<3 and driver=1", 1);
    }

    private static void manyAndFirst(DriverHost host) {
        Check.due("first", 1, () -> Check.query(host, "first number>0"));
        Check.due("first", 2, () -> Check.query(host, "first class=3"));
        Check.due("first of all", 0, () -> Check.query(host, "first 0=0"));
        Check.due("first of none", -1, () -> Check.query(host, "first state=4"));
        DriverHost empty = new DriverHost();
        Check.due("first without requests", -1, () -> Check.query(empty, "first 0=0"));
        Check.due("many without requests", 0, () -> Check.query(empty, "many 0=0"));
        String before = Check.all(host);
        Check.query(host, "many 1=1");
        Check.due("nothing changed", before, () -> Check.all(host));
    }

    private static void error(DriverHost host, String text, int code, int position) {
        Check.due("query " + text, -1000000000 - code, () -> Check.query(host, text));
        Check.due("errorPosition after " + text, position, host::errorPosition);
    }

    private static void errors(DriverHost host) {
        error(host, "", 1, 0);
        error(host, "   ", 1, 3);
        error(host, "all", 1, 0);
        error(host, "many", 1, 4);
        error(host, "many \n", 1, 6);
        error(host, "many state", 1, 10);
        error(host, "many state=", 1, 11);
        many(host, " state=1 \n ", 1);
        error(host, "many state=1 state=2", 1, 13);
        error(host, "many state=1)", 1, 12);
        error(host, "many (state=1", 1, 13);
        error(host, "many state+1", 1, 10);
        error(host, "many state==1", 1, 11);
        error(host, "many stat=1", 1, 5);
        error(host, "many [state=1]", 1, 5);
        error(host, "many (1)=1", 1, 7);
        error(host, "many state=-1", 1, 11);
        error(host, "many state=1 or", 1, 15);
        error(host, "many not", 1, 8);
        error(host, "many and 1=1", 1, 5);
        error(host, "many state=1;", 1, 12);
        error(host, "many state=1\u00e9", 1, 12);
        error(host, "many state=1 first", 1, 13);
        error(host, "first many 1=1", 1, 6);
        error(host, "Many 1=1", 1, 0);
        many(host, "argument=99999", 1);
        many(host, "argument=00000099999", 1);
        error(host, "many argument=100000", 2, 14);
        error(host, "many 100000=argument", 2, 5);
        error(host, "many 99999999999999999999=argument", 2, 5);
        error(host, "many 4294967296=argument and", 2, 5);
    }

    private static void brackets(DriverHost host) {
        many(host, "((((((1=1))))))", 4);
        many(host, "((((((1=1)))))) and ((((((1=1))))))", 4);
        many(host, "not not not not not not 1=1", 4);
        many(host, "not (not (not (1=1)))and not not not not not not 1=1", 0);
        error(host, "many (((((((1=1)))))))", 3, 11);
        error(host, "many not not not not not not not 1=1", 3, 29);
        error(host, "many not (not (not (not 1=1)))", 3, 20);
        error(host, "many 1((((((1=1))))))", 1, 6);
    }

    private static void lengths() {
        DriverHost host = new DriverHost();
        Check.refused("query(1) of an empty buffer", () -> host.query(1));
        Check.refused("query(-1)", () -> host.query(-1));
        Check.refused("query of the least int", () -> host.query(Integer.MIN_VALUE));
        StringBuilder text = new StringBuilder("many 1=1");
        while (text.length() < 220) {
            text.append(' ');
        }
        Check.feed(host, text.toString());
        Check.refused("query(201)", () -> host.query(201));
        Check.refused("query(220)", () -> host.query(220));
        Check.refused("query(-1)", () -> host.query(-1));
        Check.due("query(200)", 0, () -> host.query(200));
        Check.refused("the buffer is empty afterwards", () -> host.query(1));
        Check.feed(host, "many 1=1");
        Check.refused("query(21) of 20", () -> host.query(21));
        Check.due("query(7)", -1000000001, () -> host.query(7));
        Check.due("only the first bytes are read", 7, host::errorPosition);
        Check.due("the buffer is empty after an error", 20, () -> host.feed(0, 0, 0, 0, 0));
        Check.due("query(0)", -1000000001, () -> host.query(0));
    }

    private static void wordsOfTheText(DriverHost host) {
        for (String word : new String[] {"arg", "res", "reg", "var", "command", "time", "limit", "executionsx"}) {
            error(host, "many " + word + "=1", 1, 5);
        }
    }
}
