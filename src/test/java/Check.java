import java.nio.charset.StandardCharsets;

/** Counts the answers that are not as due; and the small things that tests do to an EventLog again and again. */
final class Check {
    interface Call {
        void run();
    }

    private final String test;
    private int calls = 0;
    private int wrong = 0;

    Check(String test) {
        this.test = test;
    }

    void same(String what, long got, long due) {
        calls++;
        if (got != due) {
            tell(what + " answered " + got + ", due is " + due);
        }
    }

    void same(String what, boolean got, boolean due) {
        same(what, got ? 1 : 0, due ? 1 : 0);
    }

    void same(String what, String got, String due) {
        calls++;
        if (!got.equals(due)) {
            tell(what + " answered '" + got + "', due is '" + due + "'");
        }
    }

    void fails(String what, Class<? extends RuntimeException> due, Call call) {
        calls++;
        try {
            call.run();
            tell(what + " threw nothing, due is " + due.getSimpleName());
        } catch (RuntimeException e) {
            if (e.getClass() != due) {
                tell(what + " threw " + e.getClass().getSimpleName() + ", due is " + due.getSimpleName());
            }
        }
    }

    private void tell(String fault) {
        wrong++;
        if (wrong <= 40) {
            System.out.println(test + ": " + fault);
        }
    }

    void end() {
        System.out.println(test + ": " + calls + " answers looked at, " + wrong + " not as due");
        if (wrong != 0 || calls == 0) {
            System.exit(1);
        }
    }

    static byte[] bytes(String s) {
        return s.getBytes(StandardCharsets.ISO_8859_1);
    }

    static void type(EventLog x, String s) {
        for (byte b : bytes(s)) {
            if (!x.type(b, 1)) {
                throw new AssertionError("the text is full");
            }
        }
    }

    static int site(EventLog x, String format) {
        type(x, format);
        return x.site();
    }

    static void name(EventLog x, int table, int code, String name) {
        type(x, name);
        x.name(table, code);
    }

    static int text(EventLog x, String s) {
        type(x, s);
        return x.text();
    }

    static int search(EventLog x, String s) {
        type(x, s);
        return x.search();
    }

    /** Logs an event whose arguments are Integers and Strings. */
    static int log(EventLog x, int writer, int site, long time, Object... arguments) {
        for (Object a : arguments) {
            if (a instanceof Integer n) {
                x.arg(n);
            } else {
                text(x, (String) a);
            }
        }
        return x.log(writer, site, time);
    }

    static String line(EventLog x, int line) {
        StringBuilder s = new StringBuilder();
        for (int i = 0; i < x.length(line); i++) {
            s.append((char) x.letter(line, i));
        }
        return s.toString();
    }

    /** Bytes of the file as numbers with blanks between them. */
    static String file(EventLog x, int from, int to) {
        StringBuilder s = new StringBuilder();
        for (int i = from; i < to; i++) {
            s.append(i == from ? "" : " ").append(x.byteOf(i));
        }
        return s.toString();
    }

    static int sum(EventLog x, int block) {
        int s = 0;
        for (int i = 0; i < 252; i++) {
            s = s * 31 + x.byteOf(256 * block + i);
        }
        return s;
    }

    /** Makes a block's sum right again after damage. */
    static void mendSum(EventLog x, int block) {
        int s = sum(x, block);
        for (int k = 0; k < 4; k++) {
            x.damage(256 * block + 252 + k, s >>> (24 - 8 * k));
        }
    }

    /** Puts other events into a block, with its count of bytes and its sum. */
    static void putEvents(EventLog x, int block, int... events) {
        x.damage(256 * block + 12, events.length >> 8);
        x.damage(256 * block + 13, events.length);
        for (int k = 0; k < 238; k++) {
            x.damage(256 * block + 14 + k, k < events.length ? events[k] : 0);
        }
        mendSum(x, block);
    }
}
