import java.nio.charset.StandardCharsets;
import java.util.NoSuchElementException;

/** What all tests share: counting wrong answers, and feeding texts. */
final class Check {
    private static int wrong = 0;
    private static int asked = 0;

    interface Call {
        Object answer();
    }

    private Check() {
    }

    static void due(String what, Object want, Call call) {
        asked++;
        Object got = answerOf(call);
        if (!want.equals(got)) {
            wrong++;
            if (wrong < 50) {
                System.out.println(what + " answered " + got + ", due is " + want);
            }
        }
    }

    static void refused(String what, Call call) {
        due(what, "throws.IllegalArgumentException", call);
    }

    static void missing(String what, Call call) {
        due(what, "throws.NoSuchElementException", call);
    }

    /** The answer, or the name of the exception; one that no promise names shows by its name. */
    static Object answerOf(Call call) {
        try {
            return call.answer();
        } catch (IllegalArgumentException | NoSuchElementException e) {
            return "throws." + e.getClass().getSimpleName();
        } catch (RuntimeException e) {
            return "THE MACHINE threw " + e;
        }
    }

    static void feed(DriverHost host, String text) {
        feed(host, text.getBytes(StandardCharsets.ISO_8859_1));
    }

    static void feed(DriverHost host, byte[] bytes) {
        for (int at = 0; at < bytes.length; at += 20) {
            host.feed(four(bytes, at), four(bytes, at + 4), four(bytes, at + 8), four(bytes, at + 12),
                    four(bytes, at + 16));
        }
    }

    private static int four(byte[] bytes, int at) {
        int value = 0;
        for (int i = at; i < at + 4; i++) {
            value = value << 8 | (i < bytes.length ? bytes[i] & 255 : 32);
        }
        return value;
    }

    static int load(DriverHost host, String text) {
        feed(host, text);
        return host.load(text.length());
    }

    static int query(DriverHost host, String text) {
        feed(host, text);
        return host.query(text.length());
    }

    static DriverHost loaded(String text) {
        DriverHost host = new DriverHost();
        int answer = load(host, text);
        if (answer < 0) {
            wrong++;
            System.out.println("the test's own text is refused: " + text + " at " + host.errorPosition());
        }
        return host;
    }

    /** Everything that the observers tell, as one text. */
    static String all(DriverHost host) {
        StringBuilder b = new StringBuilder();
        b.append(host.driverCount()).append(' ').append(host.commandCount()).append(' ')
                .append(host.requestCount()).append(' ').append(host.clock()).append('\n');
        for (int d = 0; d < host.driverCount(); d++) {
            b.append(host.driverState(d)).append(' ').append(host.downUntil(d)).append(' ')
                    .append(host.streak(d)).append(' ').append(host.inFlight(d)).append(' ')
                    .append(host.nextRequest(d)).append(' ').append(host.queued(d)).append(' ')
                    .append(host.availability(d)).append(' ').append(host.meanTime(d)).append(" r");
            for (int r = 0; r < 8; r++) {
                b.append(host.register(d, r)).append(' ');
            }
            for (int v = 0; v < 4; v++) {
                b.append('v').append(host.variable(d, v)).append(' ').append(host.saved(d, v)).append(' ');
            }
            for (int i = 0; i <= host.logSize(d); i++) {
                b.append('l').append(host.logged(d, i)).append(' ');
            }
            b.append('\n');
        }
        for (int r = 0; r < host.requestCount(); r++) {
            for (int w = 0; w < 15; w++) {
                b.append(host.request(r, w)).append(' ');
            }
            b.append(host.decision(r)).append('\n');
        }
        for (int i = 0; i < host.recordCount(); i++) {
            for (int w = 0; w < 4; w++) {
                b.append(host.record(i, w)).append(' ');
            }
        }
        for (int w = 0; w < 9; w++) {
            b.append('t').append(host.total(w)).append(' ');
        }
        return b.toString();
    }

    static void close(String name) {
        System.out.println(name + ": " + (asked - wrong) + " of " + asked + " answers are as due");
        if (wrong > 0 || asked == 0) {
            System.exit(1);
        }
    }
}
