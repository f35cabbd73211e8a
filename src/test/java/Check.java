import java.nio.charset.StandardCharsets;

/** Counts the answers that are not as due; and the small things that tests do to an EventLog again and again. */
final class Check {
    interface Call {
        void run();
    }

    private final String test;
    private int calls = 0;
    private int wrong = 0;
    private String sentence = "";
    private int sentences = 0;
    private int callsBefore = 0;

    Check(String test) {
        this.test = test;
    }

    /** What comes now looks at this sentence of the document, until the next one. */
    void sentence(String words) {
        endSentence();
        sentence = words;
        sentences++;
        callsBefore = calls;
    }

    private void endSentence() {
        if (sentences > 0 && calls == callsBefore) {
            tell("nothing was looked at");
        }
    }

    void same(String what, long got, long due) {
        calls++;
        if (got != due) {
            tell(what + " answered " + got + ", due is " + due);
        }
    }

    void same(String what, boolean got, boolean due) {
        same(what, got ? 1 : 0, due ? 1 : 0);
    }

    void same(String what, String got, String due) {
        calls++;
        if (!got.equals(due)) {
            tell(what + " answered '" + got + "', due is '" + due + "'");
        }
    }

    void fails(String what, Class<? extends RuntimeException> due, Call call) {
        calls++;
        try {
            call.run();
            tell(what + " threw nothing, due is " + due.getSimpleName());
        } catch (RuntimeException e) {
            if (e.getClass() != due) {
                tell(what + " threw " + e.getClass().getSimpleName() + ", due is " + due.getSimpleName());
            }
        }
    }

    private void tell(String fault) {
        wrong++;
        if (wrong <= 40) {
            System.out.println(test + ": " + (sentences > 0 ? "[" + sentence + "] " : "") + fault);
        }
    }

    void end() {
        endSentence();
        String of = sentences > 0 ? " for " + sentences + " sentences" : "";
        System.out.println(test + ": " + calls + " answers looked at" + of + ", " + wrong + " not as due");
        if (wrong != 0 || calls == 0) {
            System.exit(1);
        }
    }

    static byte[] bytes(String s) {
        return s.getBytes(StandardCharsets.ISO_8859_1);
    }

    /** Types eight bytes at a time, so that a test keeps far from an object's 512 calls. */
    static void type(EventLog x, String s) {
        byte[] b = bytes(s);
        for (int from = 0; from < b.length; from += 8) {
            int n = Math.min(8, b.length - from);
            long w = 0;
            for (int k = n - 1; k >= 0; k--) {
                w = w << 8 | b[from + k] & 255;
            }
            if (!x.type(w, n)) {
                throw new AssertionError("the text is full");
            }
        }
    }

    static int site(EventLog x, String format) {
        type(x, format);
        return x.site();
    }

    static void name(EventLog x, int table, int code, String name) {
        type(x, name);
        x.name(table, code);
    }

    static int text(EventLog x, String s) {
        type(x, s);
        return x.text();
    }

    static int search(EventLog x, String s) {
        type(x, s);
        return x.search();
    }

    /** Logs an event whose arguments are Integers and Strings. */
    static int log(EventLog x, int writer, int site, long time, Object... arguments) {
        for (Object a : arguments) {
            if (a instanceof Integer n) {
                x.arg(n);
            } else {
                text(x, (String) a);
            }
        }
        return x.log(writer, site, time);
    }

    static String line(EventLog x, int line) {
        StringBuilder s = new StringBuilder();
        int n = x.length(line);
        for (int i = 0; i < n; i++) {
            s.append((char) x.letter(line, i));
        }
        return s.toString();
    }

    /** A writer's block goes to the file: the bytes of its events. */
    static String flushed(EventLog x, int writer) {
        int from = x.size();
        x.flush(writer);
        int n = 256 * x.byteOf(from + 12) + x.byteOf(from + 13);
        return file(x, from + 14, from + 14 + n);
    }

    /** How many bytes the text has; it is full then. */
    static int typed(EventLog x) {
        int room = 0;
        while (x.type(' ', 1)) {
            room++;
        }
        return 200 - room;
    }

    /** Bytes of the file as numbers with blanks between them. */
    static String file(EventLog x, int from, int to) {
        StringBuilder s = new StringBuilder();
        for (int i = from; i < to; i++) {
            s.append(i == from ? "" : " ").append(x.byteOf(i));
        }
        return s.toString();
    }

    /** The sum that a block should have; what is behind its events is zeros and not read. */
    static int sum(EventLog x, int block) {
        return new Forgery(x, block).sum();
    }
}
