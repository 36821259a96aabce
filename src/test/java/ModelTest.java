import java.lang.reflect.InvocationTargetException;
import java.lang.reflect.Method;
import java.nio.charset.StandardCharsets;
import java.util.Arrays;
import java.util.Random;

/** Random runs of calls, each answer compared with the one of the slow second reading in Model. */
public final class ModelTest {
    private static final int RUNS = 1500;
    private static final int CALLS = 250;

    private final Random random;
    private final int run;
    private final DriverHost host = new DriverHost();
    private final Model model = new Model();
    private final StringBuilder story = new StringBuilder();

    private ModelTest(int run) {
        this.run = run;
        this.random = new Random(run * 7919L + 17);
    }

    public static void main(String[] args) throws Exception {
        int runs = args.length > 0 ? Integer.parseInt(args[0]) : RUNS;
        for (int run = 0; run < runs; run++) {
            new ModelTest(run).play();
            new ModelTest(-1 - run).readMany();
        }
        Check.close("ModelTest");
    }

    private static Object call(Object target, String name, int[] arguments) {
        try {
            Class<?>[] types = new Class<?>[arguments.length];
            Arrays.fill(types, int.class);
            Method method;
            Object[] values = Arrays.stream(arguments).boxed().toArray();
            if (name.equals("feed") && target instanceof Model) {
                method = Model.class.getDeclaredMethod("feed", int[].class);
                values = new Object[] {arguments};
            } else {
                method = target.getClass().getDeclaredMethod(name, types);
            }
            Object answer = method.invoke(target, values);
            return answer == null ? "void" : answer;
        } catch (InvocationTargetException e) {
            return "throws." + e.getCause().getClass().getSimpleName();
        } catch (ReflectiveOperationException e) {
            throw new IllegalStateException(e);
        }
    }

    private Object both(String name, int... arguments) {
        Object want = call(model, name, arguments);
        story.append(name).append(Arrays.toString(arguments)).append(" = ").append(want).append('\n');
        String what = "run " + run + ": " + name + Arrays.toString(arguments);
        Object got = call(host, name, arguments);
        if (!want.equals(got) && System.getenv("STORY") != null) {
            System.out.println(story);
        }
        Check.due(what, want, () -> got);
        return want;
    }

    private void play() {
        if (random.nextInt(10) > 0) {
            read("load", validText());
        }
        int calls = 20 + random.nextInt(CALLS);
        boolean long1 = random.nextInt(4) == 0;
        for (int i = 0; i < calls; i++) {
            step(long1);
            if (i % 25 == 24) {
                observeAll();
            }
        }
        observeAll();
    }

    /** Texts and queries alone: spoilt ones, and words in an order that is only nearly right. */
    private void readMany() {
        for (int count = 0; count < 12; count++) {
            boolean asking = random.nextInt(3) == 0;
            String text = random.nextBoolean() ? soupText(asking) : spoilt(asking ? queryText() : validText());
            read(asking ? "query" : "load", text);
        }
    }

    /** Mostly a piece that may follow the one before it, as the start of a text or query leads on. */
    private String soupText(boolean asking) {
        String[] pieces = asking
                ? "not not ( ( ) ) and or < = > 0 99999 100000 number driver kind class state result arg x ;".split(" ")
                : ("not not [ [ ] ] ( ( ) ) and or < = > + - * 0 7 8 65535 65536 reg@0 reg@7 reg@8 var@3 var@4 arg arg "
                + "res ; ;@command@b@once@time@1 time@50 time@51 result set@7= set@8= keep@3= keep@4= x").split(" ");
        String[] starts = asking ? new String[] {"many ", "first ", "many not ", "first (", "many 1=1 and "}
                : new String[] {"drivers 1;command a check ", "drivers 2;command a pure time 1 result ",
                    "drivers 3;command a once time 1 set 0=", "drivers 4;command a again time 1 keep 0=",
                    "drivers 1;command a check [ not reg 1=", "drivers 1;command a check not not not ( "};
        StringBuilder b = new StringBuilder(starts[random.nextInt(starts.length)]);
        for (int count = random.nextInt(16); count > 0; count--) {
            b.append(pieces[random.nextInt(pieces.length)].replace('@', ' ')).append(random.nextInt(3) == 0 ? "" : " ");
        }
        return b.toString();
    }

    private void step(boolean longRuns) {
        switch (random.nextInt(32)) {
            case 0, 1, 2, 3, 4, 5, 6 -> both("submit", driver(), command(), argument(), pick(0, 3), limit());
            case 7 -> both("cancel", request());
            case 8, 9, 10, 11 -> both("plan", request(), pick(0, 2), pick(0, random.nextBoolean() ? 3 : 20));
            case 12, 13 -> both("kill", driver());
            case 14 -> both("replace", driver());
            case 15 -> both("takeSnapshot", driver());
            case 16 -> both("poke", driver(), pick(0, 7), pick(0, random.nextBoolean() ? 3 : 65535));
            case 17, 18, 19, 20, 21, 22 -> both("run", longRuns ? pick(0, 60) : pick(0, 6));
            case 23 -> both("run", random.nextInt(6) == 0 ? pick(0, 1000) : pick(0, 30));
            case 24 -> both("forecast", request());
            case 25 -> {
                if (random.nextInt(3) == 0) {
                    both("bestDelay", pick(0, random.nextInt(4) == 0 ? 200 : 40));
                }
            }
            case 26 -> both("undo");
            case 27 -> {
                if (random.nextInt(4) == 0) {
                    both(random.nextBoolean() ? "saveState" : "restoreState");
                }
            }
            case 28, 29 -> read("query", queryText());
            case 30 -> {
                if (random.nextInt(12) == 0) {
                    read("load", random.nextInt(4) == 0 ? validText() : spoilt(validText()));
                }
            }
            default -> single();
        }
    }

    private void single() {
        String[] names = {"driverState", "downUntil", "streak", "logSize", "inFlight", "nextRequest", "queued",
            "availability", "meanTime", "decision", "classOf", "timeOf", "total"};
        both(names[random.nextInt(names.length)], pick(0, 8));
        String[] pairs = {"register", "variable", "saved", "logged", "request", "record"};
        both(pairs[random.nextInt(pairs.length)], pick(0, 3), pick(0, 15));
    }

    private void observeAll() {
        for (String name : new String[] {"driverCount", "commandCount", "requestCount", "clock", "errorPosition",
            "undoCount", "recordCount"}) {
            both(name);
        }
        for (int d = 0; d < model.driverCount(); d++) {
            for (String name : new String[] {"driverState", "downUntil", "streak", "logSize", "inFlight",
                "nextRequest", "queued", "availability", "meanTime"}) {
                both(name, d);
            }
            for (int i = 0; i < 8; i++) {
                both("register", d, i);
                both("variable", d, i);
                both("saved", d, i);
                both("logged", d, i);
            }
        }
        for (int r = 0; r < model.requestCount(); r++) {
            both("decision", r);
            for (int what = 0; what <= 15; what++) {
                both("request", r, what);
            }
        }
        for (int i = 0; i <= model.recordCount(); i++) {
            for (int what = 0; what < 4; what++) {
                both("record", i, what);
            }
        }
        for (int what = -1; what < 10; what++) {
            both("total", what);
        }
    }

    private int pick(int low, int high) {
        return switch (random.nextInt(60)) {
            case 0 -> low - 1;
            case 1 -> high + 1;
            case 2 -> random.nextInt();
            default -> low + random.nextInt(high - low + 1);
        };
    }

    private int driver() {
        return pick(0, model.driverCount() - 1);
    }

    private int command() {
        return pick(0, Math.max(0, model.commandCount() - 1));
    }

    private int request() {
        int count = Math.max(1, model.requestCount());
        return random.nextInt(3) == 0 ? pick(0, count - 1) : pick(Math.max(0, count - 4), count - 1);
    }

    private int argument() {
        return switch (random.nextInt(4)) {
            case 0 -> random.nextInt();
            case 1 -> -random.nextInt(5);
            default -> random.nextInt(4);
        };
    }

    private int limit() {
        return random.nextInt(3) > 0 ? 0 : random.nextInt(20) == 0 ? pick(0, 100000) : pick(0, 25);
    }

    private void read(String name, String text) {
        byte[] bytes = text.getBytes(StandardCharsets.ISO_8859_1);
        for (int at = 0; at < bytes.length; at += 20) {
            int[] words = new int[5];
            for (int i = 0; i < 20; i++) {
                words[i / 4] = words[i / 4] << 8 | (at + i < bytes.length ? bytes[at + i] & 255 : 32);
            }
            both("feed", words);
        }
        int length = random.nextInt(30) == 0 ? pick(0, bytes.length) : bytes.length;
        Object answer = both(name, length);
        if (answer.equals("throws.IllegalArgumentException")) {
            both("load", 0);
        }
        both("errorPosition");
    }

    private String spoilt(String text) {
        StringBuilder b = new StringBuilder(text);
        for (int times = 1 + random.nextInt(2); times > 0 && b.length() > 0; times--) {
            int at = random.nextInt(b.length());
            String[] odd = {";", "(", ")", "[", "]", "not ", " res ", " reg ", " var 2", "=", "99999", "7", "\u00e9",
                "A", "\t", " command ", " and ", "<", "0", "65536", " number ", "x", "-", "*", "\u0000", "((((((("};
            switch (random.nextInt(4)) {
                case 0 -> b.deleteCharAt(at);
                case 1 -> b.setLength(Math.max(1, at));
                case 2 -> b.setCharAt(at, odd[random.nextInt(odd.length)].charAt(0));
                default -> b.insert(at, odd[random.nextInt(odd.length)]);
            }
        }
        return b.length() > 900 ? b.substring(0, 900) : b.toString();
    }

    private String validText() {
        while (true) {
            StringBuilder b = new StringBuilder("drivers " + (1 + random.nextInt(4)) + ";");
            int commands = random.nextInt(12) == 0 ? 9 : 1 + random.nextInt(6);
            for (int i = 0; i < commands; i++) {
                b.append(commandText(i));
            }
            for (String clause : new String[] {"calm " + edge(1, 30, 1000), "streak " + edge(0, 7, 20),
                "poison " + edge(1, 5, 20), "every " + edge(1, 6, 20), "handover " + edge(1, 9, 50), delayText()}) {
                if (random.nextBoolean()) {
                    b.append(random.nextBoolean() ? " " : "\n").append(clause).append(';');
                }
            }
            if (b.length() <= 900) {
                return b.toString();
            }
        }
    }

    private String delayText() {
        int first = edge(1, 8, 100);
        return "delay " + first + " " + edge(first, first + 29, 1000);
    }

    /** Mostly a usual number from the least one on; now and then one at an edge of the range, rarely one beyond it. */
    private int edge(int low, int usual, int high) {
        return switch (random.nextInt(60)) {
            case 0 -> Math.max(0, low - 1);
            case 1 -> high + 1;
            case 2, 3, 4 -> high;
            case 5, 6, 7 -> low;
            case 8 -> high - 1;
            default -> low + random.nextInt(usual - low + 1);
        };
    }

    private String commandText(int number) {
        String[] kinds = {"pure", "again", "once", "check "};
        int kind = random.nextInt(4);
        StringBuilder b = new StringBuilder("command ");
        b.append((char) ('a' + (random.nextInt(40) == 0 ? 0 : number))).append("q ").append(kinds[kind]);
        if (kind == 3) {
            b.append(testText(2));
        }
        b.append(" time ").append(1 + random.nextInt(random.nextInt(4) == 0 ? 50 : 3));
        if (random.nextInt(3) > 0) {
            b.append(" result ").append(sumText("reg var arg", 2));
        }
        for (int i = random.nextInt(3); i > 0; i--) {
            b.append(" set ").append(random.nextInt(8)).append('=').append(sumText("reg var arg res", 2));
        }
        for (int i = random.nextInt(3); i > 0; i--) {
            b.append(" keep ").append(random.nextInt(4)).append('=').append(sumText("var arg res", 2));
        }
        return b.append(';').toString();
    }

    private String testText(int depth) {
        return switch (depth <= 0 ? 0 : random.nextInt(6)) {
            case 1 -> "not " + testText(depth - 1);
            case 2 -> "[" + testText(depth - 1) + " or " + testText(depth - 1) + "]";
            case 3 -> testText(depth - 1) + " and " + testText(depth - 1);
            case 4 -> testText(depth - 1) + " or " + testText(depth - 1);
            default -> sumText("reg arg", 1) + "<=>".charAt(random.nextInt(3)) + sumText("reg arg", 1);
        };
    }

    private String sumText(String allowed, int depth) {
        return switch (depth <= 0 ? 0 : random.nextInt(6)) {
            case 1 -> "(" + sumText(allowed, depth - 1) + ")";
            case 2 -> sumText(allowed, depth - 1) + "*" + sumText(allowed, depth - 1);
            case 3 -> sumText(allowed, depth - 1) + "-" + sumText(allowed, depth - 1);
            case 4 -> sumText(allowed, depth - 1) + "+" + sumText(allowed, depth - 1);
            default -> operandText(allowed);
        };
    }

    private String operandText(String allowed) {
        String[] words = allowed.split(" ");
        String word = words[random.nextInt(words.length)];
        return switch (random.nextInt(4)) {
            case 0 -> String.valueOf(random.nextInt(random.nextBoolean() ? 4 : 65536));
            default -> word.equals("reg") ? "reg " + random.nextInt(random.nextBoolean() ? 2 : 8)
                    : word.equals("var") ? "var " + random.nextInt(4) : word;
        };
    }

    private String queryText() {
        String text = (random.nextBoolean() ? "many " : "first ") + criterionText(3);
        if (random.nextInt(5) == 0) {
            text = spoilt(text);
        }
        return text.length() > 220 ? text.substring(0, 220) : text;
    }

    private String criterionText(int depth) {
        return switch (depth <= 0 ? 0 : random.nextInt(7)) {
            case 1 -> "not " + criterionText(depth - 1);
            case 2 -> "(" + criterionText(depth - 1) + " or " + criterionText(depth - 1) + ")";
            case 3 -> criterionText(depth - 1) + " and " + criterionText(depth - 1);
            case 4 -> criterionText(depth - 1) + " or " + criterionText(depth - 1);
            case 5 -> "(".repeat(random.nextInt(8)) + criterionText(0) + ")".repeat(random.nextInt(8));
            default -> valueText() + "<=>".charAt(random.nextInt(3)) + valueText();
        };
    }

    private String valueText() {
        String[] words = {"number", "driver", "kind", "class", "argument", "priority", "state", "failure", "result",
            "executions", "crashes"};
        return random.nextInt(3) == 0 ? String.valueOf(random.nextInt(random.nextInt(9) == 0 ? 120000 : 4))
                : words[random.nextInt(words.length)];
    }
}
