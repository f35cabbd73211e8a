import java.util.NoSuchElementException;

/** Promises 17 (about), 18 (length) and 19 (letter), and how a slot is printed. */
public final class LineTest {
    private static final Check check = new Check("LineTest");

    public static void main(String[] args) {
        aboutALine();
        aboutRefuses();
        everyKindIsPrinted();
        bracesArePrintedOnce();
        aFaultLeavesNothingBehind();
        theLongestLine();
        namesAsTheyAreWhenAsked();
        lengthAndLetterRefuse();
        check.end();
    }

    private static EventLog logged(String format, Object... arguments) {
        EventLog x = new EventLog();
        int site = Check.site(x, format);
        Check.log(x, 2, site, 50, arguments);
        x.flush(2);
        x.open();
        return x;
    }

    private static void aboutALine() {
        EventLog x = new EventLog();
        Check.site(x, "other");
        int site = Check.site(x, "{d}{t}{x}{t}{f2}{e1}");
        Check.log(x, 3, site, 50, -7, "abc", Integer.MIN_VALUE, "", 61, 3);
        Check.log(x, 3, site, 51, -8, "1234567890123456", Integer.MAX_VALUE, "z", 61, 2);
        x.flush(3);
        x.open();
        long[][] due = {{3, 1, -7, 3, Integer.MIN_VALUE, 0, 61, 3}, {3, 1, -8, 16, Integer.MAX_VALUE, 1, 61, 2}};
        for (int line = 0; line < 2; line++) {
            for (int what = -2; what <= 5; what++) {
                check.same("about " + line + " " + what, x.about(line, what), due[line][what + 2]);
            }
        }
    }

    private static void aboutRefuses() {
        EventLog x = logged("{d}{t}", 1, "a");
        int[] noLines = {-1, 1, Integer.MAX_VALUE, Integer.MIN_VALUE};
        for (int line : noLines) {
            check.fails("line " + line, NoSuchElementException.class, () -> x.about(line, 0));
            check.fails("line before what", NoSuchElementException.class, () -> x.about(line, 6));
            check.fails("line before what", NoSuchElementException.class, () -> x.about(line, -3));
        }
        for (int what = 2; what <= 5; what++) {
            int slot = what;
            check.fails("no slot " + slot, NoSuchElementException.class, () -> x.about(0, slot));
        }
        int[] wrong = {6, -3, 7, Integer.MAX_VALUE, Integer.MIN_VALUE};
        for (int what : wrong) {
            check.fails("what " + what, IndexOutOfBoundsException.class, () -> x.about(0, what));
        }
    }

    private static void prints(String slot, int number, String due) {
        EventLog x = logged("<" + slot + ">", number);
        check.same(slot + " of " + number, Check.line(x, 0), "<" + due + ">");
        check.same("length", x.length(0), due.length() + 2);
    }

    private static void everyKindIsPrinted() {
        int least = Integer.MIN_VALUE;
        int most = Integer.MAX_VALUE;
        prints("{d}", 0, "0");
        prints("{d}", -1, "-1");
        prints("{d}", 1000, "1000");
        prints("{d}", least, "-2147483648");
        prints("{d}", most, "2147483647");
        prints("{u}", 0, "0");
        prints("{u}", -1, "4294967295");
        prints("{u}", least, "2147483648");
        prints("{u}", most, "2147483647");
        prints("{x}", 0, "0");
        prints("{x}", 10, "a");
        prints("{x}", 0x1f0, "1f0");
        prints("{x}", 0x9abcdef, "9abcdef");
        prints("{x}", -1, "ffffffff");
        prints("{x}", least, "80000000");
        prints("{f1}", 0, "0.0");
        prints("{f1}", 9, "0.9");
        prints("{f1}", -9, "-0.9");
        prints("{f1}", 10, "1.0");
        prints("{f1}", least, "-214748364.8");
        prints("{f2}", -5, "-0.05");
        prints("{f2}", -1234, "-12.34");
        prints("{f3}", 1000, "1.000");
        prints("{f3}", 999, "0.999");
        prints("{f4}", 12345, "1.2345");
        prints("{f5}", 99999, "0.99999");
        prints("{f6}", 0, "0.000000");
        prints("{f6}", 5, "0.000005");
        prints("{f6}", -1000000, "-1.000000");
        prints("{f6}", most, "2147.483647");
        prints("{f6}", least, "-2147.483648");
        prints("{e5}", 31, "31");
        prints("{e5}", -1, "-1");
        prints("{e5}", 32, "32");
        prints("{e5}", least, "-2147483648");
        EventLog x = logged("<{t}|{t}>", "", "a{d}}\0\377");
        check.same("texts", Check.line(x, 0), "<|a{d}}\0\377>");
        check.same("letters are 0 .. 255", x.letter(0, 8), 255);
    }

    private static void bracesArePrintedOnce() {
        check.same("braces", Check.line(logged("{{d}} {{{d}}} }}{{", 7), 0), "{d} {7} }{");
        check.same("nothing", logged("").length(0), 0);
        check.same("two slots", Check.line(logged("{d}{d}", 1, 2), 0), "12");
    }

    private static void aFaultLeavesNothingBehind() {
        EventLog x = new EventLog();
        check.same("fault", Check.site(x, "a{t}{f3}{f4}{e5}{f6}{f2}}"), -26);
        check.same("fault", Check.site(x, "ab{f3}{f3"), -10);
        int site = Check.site(x, "c{d}{x}{u}");
        check.same("log", Check.log(x, 0, site, 0, 1234, 255, 7), 13);
        x.flush(0);
        x.open();
        check.same("line", Check.line(x, 0), "c1234ff7");
    }

    private static void theLongestLine() {
        String s = "abcdefghijklmnop";
        EventLog x = logged("{t}".repeat(6) + "x".repeat(62), s, s, s, s, s, s);
        check.same("length", x.length(0), 6 * 16 + 62);
        check.same("line", Check.line(x, 0), s.repeat(6) + "x".repeat(62));
        EventLog y = logged("x".repeat(80));
        check.same("line", Check.line(y, 0), "x".repeat(80));
    }

    private static void namesAsTheyAreWhenAsked() {
        EventLog x = logged("{e0}{e7}", 0, 31);
        check.same("line", Check.line(x, 0), "031");
        Check.name(x, 7, 31, "last");
        check.same("line", Check.line(x, 0), "0last");
        Check.name(x, 0, 0, "first ");
        check.same("line", Check.line(x, 0), "first last");
        check.same("the number is there still", x.about(0, 1), 31);
        Check.name(x, 0, 0, "1");
        check.same("line", Check.line(x, 0), "1last");
    }

    private static void lengthAndLetterRefuse() {
        EventLog x = logged("ab");
        int[] noLines = {-1, 1, Integer.MAX_VALUE, Integer.MIN_VALUE};
        for (int line : noLines) {
            check.fails("length " + line, NoSuchElementException.class, () -> x.length(line));
            check.fails("letter " + line, NoSuchElementException.class, () -> x.letter(line, 0));
            check.fails("line before i", NoSuchElementException.class, () -> x.letter(line, -1));
        }
        int[] wrong = {-1, 2, 200, Integer.MAX_VALUE, Integer.MIN_VALUE};
        for (int i : wrong) {
            check.fails("letter " + i, IndexOutOfBoundsException.class, () -> x.letter(0, i));
        }
        check.same("letter", x.letter(0, 1), 'b');
    }
}
