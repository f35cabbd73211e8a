import java.util.NoSuchElementException;

/** "A call that throws changes nothing (but for the text and the arguments)": every call that can be refused, and why. */
public final class RefusedTest {
    private static final Check check = new Check("RefusedTest");
    private static final String LONG = "sixteen bytes ..";
    private static final Class<NoSuchElementException> NO_SUCH = NoSuchElementException.class;
    private static final Class<IllegalStateException> STATE = IllegalStateException.class;
    private static final Class<IllegalArgumentException> WRONG = IllegalArgumentException.class;
    private static final Class<UnsupportedOperationException> FULL = UnsupportedOperationException.class;
    private static final Class<IndexOutOfBoundsException> OUTSIDE = IndexOutOfBoundsException.class;
    private static final int LEAST = Integer.MIN_VALUE;
    private static final int MOST = Integer.MAX_VALUE;

    public static void main(String[] args) {
        thePastIsRich();
        typeChangesNothing();
        siteChangesNothing();
        nameChangesNothing();
        argumentsChangeNothing();
        logChangesNothing();
        flushChangesNothing();
        crashChangesNothing();
        bytesChangeNothing();
        linesChangeNothing();
        termsChangeNothing();
        askingChangesNothing();
        check.end();
    }

    /** Sites 0 to 5, some names. */
    private static void told(EventLog x) {
        for (String format : new String[] {"{d}", "{t}{e2}", "", "{t}{t}{t}{t}{t}{t}", "{e0}{e1}{e2}{e3}", "{e4}{e5}{e6}{e7}"}) {
            Check.site(x, format);
        }
        Check.name(x, 2, 5, "five");
        Check.name(x, 0, 0, "nought");
        Check.name(x, 7, 31, "last");
    }

    private static void longEvent(EventLog x, int writer, long time) {
        Check.log(x, writer, 3, time, LONG, LONG, LONG, LONG, LONG, LONG);
    }

    private static void asked(EventLog x) {
        x.open();
        x.where(1, 0, 0);
        x.where(2, 0, 6);
    }

    /** Two durable blocks, one of them broken, and one that is not durable; lines; terms; writers 0, 1 and 3 have events in their blocks. */
    private static void past(EventLog x) {
        told(x);
        Check.log(x, 0, 0, 10, 5);
        Check.log(x, 0, 0, 20, 7);
        x.flush(0);
        x.log(2, 2, 10);
        x.flush(2);
        x.damage(256 + 30, 1);
        for (int k = 0; k < 3; k++) {
            longEvent(x, 1, 10);
        }
        asked(x);
        Check.log(x, 0, 0, 20, 9);
        Check.log(x, 3, 1, 30, "ab", 5);
    }

    private static void withText(EventLog x) {
        past(x);
        Check.type(x, "a");
    }

    private static void withArguments(EventLog x) {
        past(x);
        Check.text(x, "xy");
        x.arg(5);
    }

    private static void withBoth(EventLog x) {
        withArguments(x);
        Check.type(x, "a");
    }

    /** 24 blocks, the last one not durable; writer 1's block has no room for a long event. */
    private static void full(EventLog x) {
        told(x);
        for (int k = 0; k < 23; k++) {
            Check.log(x, 0, 0, 10, k);
            x.flush(0);
        }
        for (int k = 0; k < 4; k++) {
            longEvent(x, 1, 10);
        }
        Check.log(x, 0, 0, 10, 5);
        asked(x);
    }

    private static void fullWithBoth(EventLog x) {
        full(x);
        Check.text(x, "xy");
        x.arg(5);
        Check.type(x, "a");
    }

    private static void cut(EventLog x) {
        past(x);
        x.crash(100);
    }

    private static void cutWithBoth(EventLog x) {
        withBoth(x);
        x.crash(100);
    }

    private static Twins of(Twins.Deed past) {
        return new Twins(check, past);
    }

    private static void thePastIsRich() {
        check.sentence("(what the objects have been through, so that a change could be seen)");
        EventLog x = new EventLog();
        withBoth(x);
        check.same("size", x.size(), 768);
        check.same("broken", x.broken(), 1);
        check.same("lines that hold", x.count(), 1);
        check.same("terms", x.clear(), 2);
        check.same("lines", x.count(), 4);
        check.same("arguments", x.arg(1), 3);
        check.same("the text", Check.site(x, ""), 6);
        check.same("durable", x.crash(0), 512);
        EventLog y = new EventLog();
        full(y);
        check.same("size", y.size(), 24 * 256);
        check.same("durable", y.crash(0), 23 * 256);
        EventLog z = new EventLog();
        cut(z);
        check.same("size", z.size(), 612);
    }

    private static void typeChangesNothing() {
        check.sentence("type: False, changing nothing");
        for (int n : new int[] {LEAST, -1, 0, 9, 16, MOST}) {
            of(RefusedTest::withBoth).compare("type of " + n, x -> check.same("type of " + n, x.type(0x6161616161616161L, n), false));
        }
        Twins nearlyFull = of(x -> {
            withArguments(x);
            Check.type(x, "x".repeat(198));
        });
        for (int n = 3; n <= 8; n++) {
            int more = n;
            nearlyFull.compare("type of " + n, x -> check.same("type of " + more, x.type(0, more), false));
        }
    }

    private static void siteChangesNothing() {
        check.sentence("site: a fault, and UnsupportedOperationException, change nothing but the text");
        String[] faults = {"{", "}", "\n", "{d}{q}", "{t}{t}{t}{t}{t}{t}{d}", "x".repeat(81), "x".repeat(200), "{f7}", "{d}}", "{d}{d}{d}{d}{d}{d",
            "{f1}{f2}{f3}{f4}{f5}{f6}z}", "{t}{t}{t}{e7"};
        for (String fault : faults) {
            of(RefusedTest::withArguments).compare("a fault", x -> check.same("a fault", Check.site(x, fault) < 0, true));
        }
        of(RefusedTest::withArguments).compare("a site that there is", x -> check.same("site", Check.site(x, "{t}{e2}"), 1));
        Twins forty = of(x -> {
            withArguments(x);
            for (int k = 6; k < 40; k++) {
                Check.site(x, "s" + k);
            }
        });
        for (String format : new String[] {"one more", "{d}{d}{d}{d}{d}{d}", "x".repeat(80), "{t} "}) {
            forty.refuseAfter("the 41st", x -> Check.type(x, format), FULL, EventLog::site);
        }
        forty.compare("a fault", x -> check.same("a fault", Check.site(x, "a{"), -3));
        forty.compare("a site that there is", x -> check.same("site", Check.site(x, "s39"), 39));
    }

    private static void nameChangesNothing() {
        check.sentence("name: NoSuchElementException and IllegalArgumentException change nothing but the text");
        int[][] wrong = {{-1, 0}, {-1, 31}, {8, 0}, {0, -1}, {1, -1}, {7, 32}, {0, 32}, {2, 37}, {LEAST, 5}, {MOST, 5}, {2, LEAST}, {2, MOST}};
        Twins twins = of(RefusedTest::withArguments);
        for (int[] w : wrong) {
            twins.refuseAfter("name " + w[0] + " " + w[1], x -> Check.type(x, "z"), NO_SUCH, x -> x.name(w[0], w[1]));
        }
        for (String s : new String[] {"", "1234567890123", "a\n", "\37bc", "ab\177", "\200", "x".repeat(200)}) {
            twins.refuseAfter("no such text", x -> Check.type(x, s), WRONG, x -> x.name(2, 5));
            twins.refuseAfter("no such text", x -> Check.type(x, s), WRONG, x -> x.name(0, 1));
        }
    }

    private static void argumentsChangeNothing() {
        check.sentence("arg, text: UnsupportedOperationException, and text: IllegalArgumentException, change nothing but the text");
        Twins sixNumbers = of(x -> {
            withText(x);
            for (int k = 0; k < 6; k++) {
                x.arg(k);
            }
        });
        sixNumbers.refuse("a seventh", FULL, x -> x.arg(9));
        Twins sixTexts = of(x -> {
            past(x);
            for (int k = 0; k < 6; k++) {
                Check.text(x, "text " + k);
            }
        });
        sixTexts.refuse("a seventh number", FULL, x -> x.arg(9));
        for (String s : new String[] {"", "z", LONG}) {
            sixTexts.refuseAfter("a seventh text", x -> Check.type(x, s), FULL, EventLog::text);
        }
        for (String s : new String[] {LONG + ".", "x".repeat(200)}) {
            sixTexts.refuseAfter("a seventh text, too long", x -> Check.type(x, s), WRONG, EventLog::text);
            of(RefusedTest::withArguments).refuseAfter("a third text, too long", x -> Check.type(x, s), WRONG, EventLog::text);
        }
    }

    private static void logs(Twins twins, String what, Class<? extends RuntimeException> due, int writer, int site, long time, Object... arguments) {
        twins.refuseAfter(what, x -> {
            for (Object a : arguments) {
                if (a instanceof Integer n) {
                    x.arg(n);
                } else {
                    Check.text(x, (String) a);
                }
            }
        }, due, x -> x.log(writer, site, time));
    }

    private static void logChangesNothing() {
        check.sentence("log: its four exceptions change nothing but the arguments");
        Twins twins = of(RefusedTest::past);
        logs(twins, "no writer -1", NO_SUCH, -1, 0, 30, 5);
        logs(twins, "no writer 4", NO_SUCH, 4, 0, 30, 5);
        logs(twins, "no site -1", NO_SUCH, 0, -1, 30, 5);
        logs(twins, "no site 6", NO_SUCH, 0, 6, 30, 5);
        logs(twins, "too few", WRONG, 0, 0, 30);
        logs(twins, "too many", WRONG, 0, 0, 30, 1, 2);
        logs(twins, "a text for a number", WRONG, 0, 0, 30, "x");
        logs(twins, "a number for a text", WRONG, 0, 1, 30, 1, 2);
        logs(twins, "time below 0", WRONG, 0, 0, -1, 5);
        logs(twins, "time far below 0", WRONG, 2, 0, Long.MIN_VALUE, 5);
        logs(twins, "time below the last", WRONG, 0, 0, 19, 5);
        logs(twins, "a long one, time below the last", WRONG, 1, 3, 9, LONG, LONG, LONG, LONG, LONG, LONG);
        of(RefusedTest::withText).refuse("the text stays", WRONG, x -> x.log(0, 2, 0));
        logs(of(RefusedTest::cut), "cut", STATE, 0, 0, 30, 5);
        logs(of(RefusedTest::cut), "cut, another writer", STATE, 2, 2, 30);
        logs(of(RefusedTest::full), "no room", FULL, 1, 3, 30, LONG, LONG, LONG, LONG, LONG, LONG);
        logs(of(RefusedTest::full), "full, no site", NO_SUCH, 1, 6, 30);
        logs(of(RefusedTest::full), "full, time below the last", WRONG, 1, 3, 9, LONG, LONG, LONG, LONG, LONG, LONG);
    }

    private static void flushChangesNothing() {
        check.sentence("flush: its three exceptions change nothing");
        for (int writer : new int[] {LEAST, -1, 4, MOST}) {
            of(RefusedTest::withBoth).refuse("flush " + writer, NO_SUCH, x -> x.flush(writer));
        }
        for (int w = 0; w < 4; w++) {
            int writer = w;
            of(RefusedTest::cutWithBoth).refuse("cut", STATE, x -> x.flush(writer));
        }
        of(RefusedTest::fullWithBoth).refuse("no room", FULL, x -> x.flush(0));
        of(RefusedTest::fullWithBoth).refuse("no room", FULL, x -> x.flush(1));
        of(RefusedTest::fullWithBoth).refuse("full, no writer", NO_SUCH, x -> x.flush(4));
    }

    private static void crashChangesNothing() {
        check.sentence("crash: its two exceptions change nothing");
        for (int n : new int[] {LEAST, -256, -1}) {
            of(RefusedTest::withBoth).refuse("crash " + n, WRONG, x -> x.crash(n));
            of(RefusedTest::fullWithBoth).refuse("crash " + n, WRONG, x -> x.crash(n));
            of(RefusedTest::cutWithBoth).refuse("crash " + n, WRONG, x -> x.crash(n));
        }
        for (int n : new int[] {0, 1, 50, 256, MOST}) {
            of(RefusedTest::cutWithBoth).refuse("a second crash", STATE, x -> x.crash(n));
        }
    }

    private static void bytesChangeNothing() {
        check.sentence("byteOf, damage: IndexOutOfBoundsException changes nothing");
        for (int i : new int[] {LEAST, -1, 768, 769, 6144, MOST}) {
            of(RefusedTest::withBoth).refuse("byteOf " + i, OUTSIDE, x -> x.byteOf(i));
            of(RefusedTest::withBoth).refuse("damage " + i, OUTSIDE, x -> x.damage(i, 7));
        }
        for (int i : new int[] {-1, 612, 613, 767, 768}) {
            of(RefusedTest::cutWithBoth).refuse("damage " + i, OUTSIDE, x -> x.damage(i, 7));
        }
        of(RefusedTest::fullWithBoth).refuse("damage 6144", OUTSIDE, x -> x.damage(6144, 7));
    }

    private static void linesChangeNothing() {
        check.sentence("time, about, length, letter: their exceptions change nothing");
        Twins twins = of(RefusedTest::withBoth);
        for (int line : new int[] {LEAST, -1, 4, MOST}) {
            twins.refuse("time", NO_SUCH, x -> x.time(line));
            twins.refuse("about", NO_SUCH, x -> x.about(line, -1));
            twins.refuse("length", NO_SUCH, x -> x.length(line));
            twins.refuse("letter", NO_SUCH, x -> x.letter(line, 0));
        }
        twins.refuse("no such slot", NO_SUCH, x -> x.about(0, 1));
        twins.refuse("no such what", OUTSIDE, x -> x.about(0, -3));
        twins.refuse("no such what", OUTSIDE, x -> x.about(0, 6));
        twins.refuse("no such letter", OUTSIDE, x -> x.letter(0, -1));
        twins.refuse("no such letter", OUTSIDE, x -> x.letter(0, 1));
    }

    private static void termsChangeNothing() {
        check.sentence("where, search, distinct: their exceptions change nothing but the text");
        for (int kind : new int[] {LEAST, -1, 4, MOST}) {
            of(RefusedTest::withBoth).refuse("kind " + kind, WRONG, x -> x.where(kind, 0, 0));
        }
        for (String s : new String[] {"", "x".repeat(25), "x".repeat(200)}) {
            of(RefusedTest::withArguments).refuseAfter("search", x -> Check.type(x, s), WRONG, EventLog::search);
        }
        Twins four = of(x -> {
            withArguments(x);
            x.where(3, 0, 9);
            Check.search(x, "7");
        });
        for (int k = -1; k <= 4; k++) {
            int kind = k;
            four.refuse("a fifth", kind < 0 || kind > 3 ? WRONG : FULL, x -> x.where(kind, 9, 9));
        }
        for (String s : new String[] {"z", "x".repeat(24)}) {
            four.refuseAfter("a fifth", x -> Check.type(x, s), FULL, EventLog::search);
        }
        four.refuse("an empty fifth", WRONG, EventLog::search);
        for (int slot : new int[] {LEAST, -1, 6, MOST}) {
            of(RefusedTest::withBoth).refuse("distinct " + slot, OUTSIDE, x -> x.distinct(slot));
        }
    }

    private static void askingChangesNothing() {
        check.sentence("size, byteOf, broken, time, about, length, letter, find, count, distinct only answer");
        Twins twins = of(RefusedTest::withBoth);
        twins.compare("size", x -> check.same("size", x.size(), 768));
        twins.compare("byteOf", x -> check.same("byteOf", x.byteOf(0), 90));
        twins.compare("broken", x -> check.same("broken", x.broken(), 1));
        twins.compare("time", x -> check.same("time", x.time(0), 10));
        twins.compare("about", x -> check.same("about", x.about(0, 0), 5));
        twins.compare("length", x -> check.same("length", x.length(1), 96));
        twins.compare("letter", x -> check.same("letter", x.letter(0, 0), '5'));
        twins.compare("find", x -> check.same("find", x.find(0), 3));
        twins.compare("count", x -> check.same("count", x.count(), 1));
        twins.compare("distinct", x -> check.same("distinct", x.distinct(0), 1));
        twins.compare("open of the same file", x -> check.same("open", x.open(), 4));
        twins.compare("clear of a query that is told again", x -> {
            check.same("clear", x.clear(), 2);
            x.where(1, 0, 0);
            x.where(2, 0, 6);
        });
    }
}
