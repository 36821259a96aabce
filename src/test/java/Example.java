import java.nio.charset.StandardCharsets;

/** The example of README.md, which quotes it whole; ReadmeTest looks whether it prints what its comments say. */
public final class Example {
    private Example() {
    }

    public static void main(String[] args) {
        DriverHost host = new DriverHost();
        String text = "drivers 1;"
                + "command add once time 2 result reg 0+arg set 0=res keep 0=var 0+1;"
                + "command put check reg 1=arg time 1 set 1=arg;"
                + "delay 3 12; poison 2;";
        feed(host, text);
        System.out.println(host.load(text.length()));             // 2 (commands)

        int first = host.submit(0, 0, 5, 0, 0);
        int second = host.submit(0, 1, 7, 0, 0);
        System.out.println(host.run(10));                         // 2 (both are completed)
        System.out.println(host.request(first, 8));               // 5 (its result)
        System.out.println(host.register(0, 1));                  // 7 (set by the second request)
        System.out.println(host.request(second, 14));             // 2 (the clock at which it was completed)

        int third = host.submit(0, 0, 5, 0, 0);
        host.plan(third, 2, 1);
        System.out.println(host.forecast(third));                 // 6 (ticks until it is completed or fails)
        System.out.println(host.run(2));                          // 0 (the driver crashed behind the effect)
        System.out.println(host.driverState(0));                  // 1 (down)
        System.out.println(host.downUntil(0));                    // 15 (crashed at 11, one tick, a delay of 3)
        System.out.println(host.decision(third));                 // 2 (fails: it must not be executed again)
        host.run(4);
        System.out.println(host.request(third, 7));               // 2 (its failure: unknown outcome)
        System.out.println(host.register(0, 0));                  // 10 (the device has the effect)
        System.out.println(host.variable(0, 0));                  // 1 (the memory is restored from the log)

        System.out.println(query(host, "many state=2"));          // 2 (completed requests)
        System.out.println(query(host, "first failure=2 or crashes>0")); // 2 (the third request)
        System.out.println(query(host, "many state=2 and"));      // -1000000001 (HIDDEN minus the error code)
        System.out.println(host.errorPosition());                 // 16 (the text ended too early)

        System.out.println(host.undo());                          // 6 (operations that can still be undone)
        System.out.println(host.driverState(0));                  // 1 (down again)
    }

    /** Feeds a text, 20 bytes a call, filled up with spaces behind its end. */
    private static void feed(DriverHost host, String text) {
        byte[] bytes = text.getBytes(StandardCharsets.ISO_8859_1);
        for (int at = 0; at < bytes.length; at += 20) {
            host.feed(four(bytes, at), four(bytes, at + 4), four(bytes, at + 8), four(bytes, at + 12),
                    four(bytes, at + 16));
        }
    }

    private static int four(byte[] bytes, int at) {
        int value = 0;
        for (int i = at; i < at + 4; i++) {
            value = value << 8 | (i < bytes.length ? bytes[i] & 255 : ' ');
        }
        return value;
    }

    private static int query(DriverHost host, String text) {
        feed(host, text);
        return host.query(text.length());
    }
}
