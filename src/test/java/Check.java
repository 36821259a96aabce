import java.nio.charset.StandardCharsets;
import java.util.NoSuchElementException;

/** What all tests share: counting wrong answers, and feeding texts. */
final class Check {
    static final int LEAST = Integer.MIN_VALUE;
    static final int GREATEST = Integer.MAX_VALUE;

    private static int wrong = 0;
    private static int asked = 0;
    private static String sentence = "";
    private static int askedOfSentence = 0;

    interface Call {
        Object answer();
    }

    private Check() {
    }

    static void due(String what, Object want, Call call) {
        asked++;
        askedOfSentence++;
        Object got = answerOf(call);
        if (!want.equals(got)) {
            fault(what + " answered " + part(got, want) + ", due is " + part(want, got));
        }
    }

    /** A long answer is told from a little before the place where it differs from the other. */
    private static String part(Object answer, Object other) {
        String told = String.valueOf(answer);
        String otherTold = String.valueOf(other);
        int same = 0;
        while (same < told.length() && same < otherTold.length() && told.charAt(same) == otherTold.charAt(same)) {
            same++;
        }
        int from = Math.max(0, same - 60);
        int end = Math.min(told.length(), same + 60);
        return (from > 0 ? ".." : "") + told.substring(from, end) + (end < told.length() ? ".." : "");
    }

    private static void fault(String told) {
        wrong++;
        if (wrong < 50) {
            System.out.println(sentence.isEmpty() ? told : "\"" + sentence + "\": " + told);
        }
    }

    /** The answers from here on show whether this sentence of the document holds; a sentence without any is a fault. */
    static void says(String itsSentence) {
        if (!sentence.isEmpty() && askedOfSentence == 0) {
            fault("nothing was asked");
        }
        sentence = itsSentence;
        askedOfSentence = 0;
    }

    static void refused(String what, Call call) {
        due(what, "throws.IllegalArgumentException", call);
    }

    static void missing(String what, Call call) {
        due(what, "throws.NoSuchElementException", call);
    }

    /** A call that answers anything but an exception. */
    static void found(String what, Call call) {
        due(what + " throws nothing", false, () -> answerOf(call) instanceof String);
    }

    /** A call that answers so and changes nothing, the undo history included. */
    static void idle(DriverHost host, String what, Object want, Call call) {
        String before = everything(host);
        due(what, want, call);
        due(what + " changes nothing", before, () -> everything(host));
    }

    private static String everything(DriverHost host) {
        return all(host) + " undo " + host.undoCount() + " error " + host.errorPosition();
    }

    static void accepts(String text, int commands) {
        DriverHost host = new DriverHost();
        due("load of " + text, commands, () -> load(host, text));
        due("errorPosition after " + text, -1, host::errorPosition);
    }

    static void rejects(String text, int code, int position) {
        DriverHost host = new DriverHost();
        due("load of " + text, -10 - code, () -> load(host, text));
        due("errorPosition after " + text, position, host::errorPosition);
    }

    /** The answer, or the name of the exception; one that no promise names shows by its name. */
    static Object answerOf(Call call) {
        try {
            return call.answer();
        } catch (IllegalArgumentException | NoSuchElementException e) {
            return "throws." + e.getClass().getSimpleName();
        } catch (RuntimeException e) {
            return "THE MACHINE threw " + e;
        }
    }

    static void feed(DriverHost host, String text) {
        feed(host, text.getBytes(StandardCharsets.ISO_8859_1));
    }

    static void feed(DriverHost host, byte[] bytes) {
        for (int at = 0; at < bytes.length; at += 20) {
            host.feed(four(bytes, at), four(bytes, at + 4), four(bytes, at + 8), four(bytes, at + 12),
                    four(bytes, at + 16));
        }
    }

    private static int four(byte[] bytes, int at) {
        int value = 0;
        for (int i = at; i < at + 4; i++) {
            value = value << 8 | (i < bytes.length ? bytes[i] & 255 : 32);
        }
        return value;
    }

    static int load(DriverHost host, String text) {
        feed(host, text);
        return host.load(text.length());
    }

    static int query(DriverHost host, String text) {
        feed(host, text);
        return host.query(text.length());
    }

    static DriverHost loaded(String text) {
        DriverHost host = new DriverHost();
        int answer = load(host, text);
        if (answer < 0) {
            wrong++;
            System.out.println("the test's own text is refused: " + text + " at " + host.errorPosition());
        }
        return host;
    }

    /** Everything that the observers tell, as one text. */
    static String all(DriverHost host) {
        StringBuilder b = new StringBuilder();
        b.append(host.driverCount()).append(' ').append(host.commandCount()).append(' ')
                .append(host.requestCount()).append(' ').append(host.clock()).append('\n');
        for (int d = 0; d < host.driverCount(); d++) {
            b.append(host.driverState(d)).append(' ').append(host.downUntil(d)).append(' ')
                    .append(host.streak(d)).append(' ').append(host.inFlight(d)).append(' ')
                    .append(host.nextRequest(d)).append(' ').append(host.queued(d)).append(' ')
                    .append(host.availability(d)).append(' ').append(host.meanTime(d)).append(" r");
            for (int r = 0; r < 8; r++) {
                b.append(host.register(d, r)).append(' ');
            }
            for (int v = 0; v < 4; v++) {
                b.append('v').append(host.variable(d, v)).append(' ').append(host.saved(d, v)).append(' ');
            }
            for (int i = 0; i <= host.logSize(d); i++) {
                b.append('l').append(host.logged(d, i)).append(' ');
            }
            b.append('\n');
        }
        for (int r = 0; r < host.requestCount(); r++) {
            for (int w = 0; w < 15; w++) {
                b.append(host.request(r, w)).append(' ');
            }
            b.append(host.decision(r)).append('\n');
        }
        for (int i = 0; i < host.recordCount(); i++) {
            for (int w = 0; w < 4; w++) {
                b.append(host.record(i, w)).append(' ');
            }
        }
        for (int w = 0; w < 9; w++) {
            b.append('t').append(host.total(w)).append(' ');
        }
        return b.toString();
    }

    static void close(String name) {
        says("");
        System.out.println(name + ": " + (asked - wrong) + " of " + asked + " answers are as due");
        if (wrong > 0 || asked == 0) {
            System.exit(1);
        }
    }
}
