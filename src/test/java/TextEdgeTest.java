import java.util.NoSuchElementException;

/** The boundary cases of the text and of the arguments: promises 1, 2, 5 and 6, and what "Terms" says of them. */
public final class TextEdgeTest {
    private static final Check check = new Check("TextEdgeTest");
    private static final int[] FAR = {Integer.MIN_VALUE, Integer.MIN_VALUE + 1, -256, 256, Integer.MAX_VALUE};

    public static void main(String[] args) {
        aNewObject();
        oneToEightBytes();
        theLowestBytesFirst();
        twoHundredBytes();
        theTextIsTakenByFourCalls();
        theTextStaysInOtherCalls();
        sixArguments();
        textsOfSixteenBytes();
        textsOfAnyBytes();
        theArgumentsStayInOtherCalls();
        check.end();
    }

    private static void aNewObject() {
        check.sentence("A new object: no sites; tables name nothing; the text, the arguments, the file are empty; no lines; no terms");
        check.fails("log", NoSuchElementException.class, () -> new EventLog().log(0, 0, 0));
        check.same("the text", Check.typed(new EventLog()), 0);
        check.fails("name", IllegalArgumentException.class, () -> new EventLog().name(0, 0));
        check.fails("search", IllegalArgumentException.class, () -> new EventLog().search());
        check.same("the first site is of the empty text", new EventLog().site(), 0);
        check.same("the first argument", new EventLog().arg(0), 1);
        check.same("the first argument is the empty text", new EventLog().text(), 1);
        check.same("size", new EventLog().size(), 0);
        check.fails("byteOf", IndexOutOfBoundsException.class, () -> new EventLog().byteOf(0));
        check.fails("damage", IndexOutOfBoundsException.class, () -> new EventLog().damage(0, 0));
        check.same("open", new EventLog().open(), 0);
        check.same("broken", new EventLog().broken(), 0);
        check.fails("time", NoSuchElementException.class, () -> new EventLog().time(0));
        check.fails("about", NoSuchElementException.class, () -> new EventLog().about(0, -2));
        check.fails("length", NoSuchElementException.class, () -> new EventLog().length(0));
        check.fails("letter", NoSuchElementException.class, () -> new EventLog().letter(0, 0));
        check.same("find", new EventLog().find(0), -1);
        check.same("count", new EventLog().count(), 0);
        check.same("clear", new EventLog().clear(), 0);
        check.same("a first term", new EventLog().where(0, 0, 0), 1);
        for (int k = 0; k < 6; k++) {
            check.same("distinct", new EventLog().distinct(k), 0);
        }
        for (int w = 0; w < 4; w++) {
            check.same("flush", new EventLog().flush(w), 0);
        }
        check.same("crash", new EventLog().crash(0), 0);
    }

    private static void oneToEightBytes() {
        check.sentence("False, changing nothing, when n is not 1 .. 8");
        for (int n = -9; n <= 17; n++) {
            typesAfterThree(n);
        }
        for (int n : FAR) {
            typesAfterThree(n);
        }
    }

    private static void typesAfterThree(int n) {
        boolean due = n >= 1 && n <= 8;
        EventLog x = new EventLog();
        Check.type(x, "abc");
        check.same("type of " + n, x.type(0x2020202020202020L, n), due);
        check.same("bytes after type of " + n, Check.typed(x), due ? 3 + n : 3);
        EventLog y = new EventLog();
        int site = Check.site(y, "abc" + " ".repeat(due ? n : 0));
        Check.type(y, "abc");
        y.type(0x2020202020202020L, n);
        check.same("the text after type of " + n, y.site(), site);
    }

    private static void theLowestBytesFirst() {
        check.sentence("The n lowest bytes of w come behind the text, the lowest first");
        String bytes = "\21\42\63\104\125\146\167\210";
        for (int n = 1; n <= 8; n++) {
            EventLog x = new EventLog();
            Check.site(x, "{t}");
            x.type('<', 1);
            x.type(0x8877665544332211L, n);
            x.text();
            x.log(0, 0, 0);
            x.flush(0);
            x.open();
            check.same("of " + n, Check.line(x, 0), "<" + bytes.substring(0, n));
        }
    }

    private static void twoHundredBytes() {
        check.sentence("False, changing nothing, when there would be more than 200");
        for (int n = 1; n <= 8; n++) {
            for (int held = 191; held <= 200; held++) {
                EventLog x = new EventLog();
                Check.type(x, "x".repeat(held));
                boolean due = held + n <= 200;
                check.same(n + " behind " + held, x.type(-1, n), due);
                check.same("bytes after " + n + " behind " + held, Check.typed(x), due ? held + n : held);
            }
        }
        EventLog x = new EventLog();
        Check.type(x, "x".repeat(200));
        for (int n = -1; n <= 9; n++) {
            check.same(n + " behind 200", x.type(0, n), false);
        }
        check.same("the 81st", x.site(), -81);
        check.same("there is room again", x.type(0, 8), true);
    }

    private static void isTaken(String what, EventLog x) {
        check.same(what + " takes the text", Check.typed(x), 0);
    }

    private static EventLog withSites(int n) {
        EventLog x = new EventLog();
        for (int k = 0; k < n; k++) {
            Check.site(x, "s" + k);
        }
        return x;
    }

    private static EventLog withTerms(int n) {
        EventLog x = new EventLog();
        for (int k = 0; k < n; k++) {
            x.where(0, 0, 0);
        }
        return x;
    }

    private static EventLog withArguments(int n) {
        EventLog x = new EventLog();
        for (int k = 0; k < n; k++) {
            x.arg(k);
        }
        return x;
    }

    private static void theTextIsTakenByFourCalls() {
        check.sentence("a call that takes it empties it, whatever it answers or throws");
        siteTakesIt(new EventLog(), "a new one", "answers 0");
        siteTakesIt(withSites(40), "s39", "answers 39");
        siteTakesIt(new EventLog(), "a{", "answers -3");
        siteTakesIt(new EventLog(), "x".repeat(200), "answers -81");
        siteTakesIt(withSites(40), "s40", "throws UnsupportedOperationException");
        nameTakesIt(0, "x", "returns");
        nameTakesIt(8, "x", "throws NoSuchElementException");
        nameTakesIt(8, "x".repeat(13), "throws NoSuchElementException");
        nameTakesIt(0, "x".repeat(13), "throws IllegalArgumentException");
        textTakesIt(withArguments(5), "x".repeat(16), "answers 6");
        textTakesIt(withArguments(5), "x".repeat(17), "throws IllegalArgumentException");
        textTakesIt(withArguments(6), "x", "throws UnsupportedOperationException");
        searchTakesIt(withTerms(3), "x".repeat(24), "answers 4");
        searchTakesIt(withTerms(3), "x".repeat(25), "throws IllegalArgumentException");
        searchTakesIt(withTerms(4), "x", "throws UnsupportedOperationException");
    }

    private static String outcome(java.util.function.Supplier<Object> call) {
        try {
            return "answers " + call.get();
        } catch (RuntimeException e) {
            return "throws " + e.getClass().getSimpleName();
        }
    }

    private static void siteTakesIt(EventLog x, String text, String due) {
        Check.type(x, text);
        check.same("site", outcome(x::site), due);
        isTaken("site that " + due, x);
    }

    private static void nameTakesIt(int table, String text, String due) {
        EventLog x = new EventLog();
        Check.type(x, text);
        String got = outcome(() -> {
            x.name(table, 0);
            return "";
        });
        check.same("name", got.replace("answers ", "returns"), due);
        isTaken("name that " + due, x);
    }

    private static void textTakesIt(EventLog x, String text, String due) {
        Check.type(x, text);
        check.same("text", outcome(x::text), due);
        isTaken("text that " + due, x);
    }

    private static void searchTakesIt(EventLog x, String text, String due) {
        Check.type(x, text);
        check.same("search", outcome(x::search), due);
        isTaken("search that " + due, x);
    }

    /** An object with a line, and one event that is not in the file. */
    private static EventLog lively() {
        EventLog x = new EventLog();
        Check.site(x, "");
        Check.site(x, "abc");
        x.log(0, 0, 5);
        x.flush(0);
        x.open();
        x.log(0, 0, 5);
        return x;
    }

    private static final int OTHERS = 22;

    private static void otherCall(EventLog x, int which) {
        switch (which) {
            case 0 -> x.arg(1);
            case 1 -> x.log(0, 0, 5);
            case 2 -> x.log(4, 0, 5);
            case 3 -> x.flush(0);
            case 4 -> x.flush(4);
            case 5 -> x.rotate();
            case 6 -> x.crash(0);
            case 7 -> x.crash(-1);
            case 8 -> x.size();
            case 9 -> x.byteOf(0);
            case 10 -> x.damage(0, 1);
            case 11 -> x.open();
            case 12 -> x.broken();
            case 13 -> x.time(0);
            case 14 -> x.about(0, -1);
            case 15 -> x.length(0);
            case 16 -> x.letter(0, 0);
            case 17 -> x.where(0, 0, 0);
            case 18 -> x.clear();
            case 19 -> x.find(0);
            case 20 -> x.count();
            default -> x.distinct(0);
        }
    }

    private static void theTextStaysInOtherCalls() {
        check.sentence("THE TEXT is a row of bytes that were typed: a call that does not take it leaves it");
        for (int which = 0; which < OTHERS; which++) {
            int call = which;
            EventLog x = lively();
            Check.type(x, "abc");
            outcome(() -> {
                otherCall(x, call);
                return "";
            });
            check.same("the text after call " + which, x.site(), 1);
        }
        EventLog x = lively();
        Check.type(x, "ab");
        x.type('z', 0);
        x.type('c', 1);
        check.same("what is typed comes behind", x.site(), 1);
    }

    private static void theArgumentsStayInOtherCalls() {
        check.sentence("log() takes it: a call that is not log() leaves the arguments");
        for (int which = 0; which < OTHERS; which++) {
            int call = which;
            EventLog x = lively();
            x.arg(1);
            Check.text(x, "a");
            outcome(() -> {
                otherCall(x, call);
                return "";
            });
            int due = which == 0 ? 3 : which == 1 || which == 2 ? 0 : 2;
            check.same("arguments after call " + which, x.arg(7), due + 1);
        }
        EventLog x = lively();
        x.arg(1);
        Check.site(x, "z");
        Check.site(x, "z{");
        Check.name(x, 0, 0, "z");
        check.fails("name", NoSuchElementException.class, () -> Check.name(x, 0, 32, "z"));
        Check.search(x, "z");
        check.fails("text", IllegalArgumentException.class, () -> Check.text(x, "x".repeat(17)));
        check.same("arguments after calls that take the text", x.arg(7), 2);
    }

    private static void sixArguments() {
        check.sentence("A number comes behind the arguments: how many they are; UnsupportedOperationException when there are six");
        for (int texts = 0; texts < 64; texts++) {
            EventLog x = new EventLog();
            for (int k = 0; k < 6; k++) {
                boolean isText = (texts >> k & 1) != 0;
                check.same("argument " + k, isText ? Check.text(x, "t") : x.arg(k), k + 1);
            }
            check.fails("a seventh number", UnsupportedOperationException.class, () -> x.arg(0));
            check.fails("a seventh text", UnsupportedOperationException.class, () -> x.text());
            sixAreLogged(x, texts);
        }
        EventLog x = new EventLog();
        Check.site(x, "{d}");
        for (int n : new int[] {Integer.MIN_VALUE, -1, 0, 1, Integer.MAX_VALUE}) {
            check.same("one", x.arg(n), 1);
            x.log(0, 0, 0);
        }
        x.flush(0);
        x.open();
        check.same("the least", x.about(0, 0), Integer.MIN_VALUE);
        check.same("the most", x.about(4, 0), Integer.MAX_VALUE);
    }

    private static void sixAreLogged(EventLog x, int texts) {
        StringBuilder format = new StringBuilder();
        StringBuilder line = new StringBuilder();
        for (int k = 0; k < 6; k++) {
            boolean isText = (texts >> k & 1) != 0;
            format.append(isText ? "{t}" : "{d}");
            line.append(isText ? "t" : "" + k);
        }
        x.log(0, Check.site(x, format.toString()), 0);
        x.flush(0);
        x.open();
        check.same("the six", Check.line(x, 0), line.toString());
    }

    private static void textsOfSixteenBytes() {
        check.sentence("The text is taken as an argument; IllegalArgumentException when it has more than 16 bytes");
        for (int n = 0; n <= 200; n += n < 18 ? 1 : 26) {
            EventLog x = new EventLog();
            String s = "abcdefghijklmnopq".repeat(12).substring(0, n);
            if (n <= 16) {
                check.same("text of " + n, Check.text(x, s), 1);
                x.log(3, Check.site(x, "{t}"), 0);
                x.flush(3);
                x.open();
                check.same("the text of " + n, Check.line(x, 0), s);
                check.same("its size", x.about(0, 0), n);
            } else {
                check.fails("text of " + n, IllegalArgumentException.class, () -> Check.text(x, s));
                check.same("no argument came", x.arg(0), 1);
            }
        }
    }

    private static void textsOfAnyBytes() {
        check.sentence("texts (at most 16 bytes each, any)");
        EventLog x = new EventLog();
        Check.site(x, "{t}{t}{t}{t}");
        for (int from = 0; from < 256; from += 64) {
            Object[] texts = new Object[4];
            for (int k = 0; k < 4; k++) {
                texts[k] = bytesFrom(from + 16 * k, 16);
            }
            Check.log(x, 0, 0, from, texts);
        }
        x.flush(0);
        x.open();
        for (int from = 0; from < 256; from += 64) {
            check.same("bytes from " + from, Check.line(x, from / 64), bytesFrom(from, 64));
        }
    }

    private static String bytesFrom(int from, int n) {
        StringBuilder s = new StringBuilder();
        for (int k = 0; k < n; k++) {
            s.append((char) (from + k));
        }
        return s.toString();
    }
}
