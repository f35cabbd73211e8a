import java.math.BigDecimal;
import java.util.NoSuchElementException;

/** The boundary cases of a line's parts and of its text: promises 17 to 19, and what "Terms" says of slots. */
public final class LineEdgeTest {
    private static final Check check = new Check("LineEdgeTest");
    private static final int[] NUMBERS = {
        0, 1, -1, 9, -9, 10, -10, 15, 16, 31, 32, 99, 100, -99, -100, 255, 256, 999, 1000, 9999, 10000, 99999, 100000, 999999, 1000000,
        -999999, -1000000, 9999999, 10000000, 0xFFFFFFF, 0x10000000, 999999999, 1000000000, Integer.MAX_VALUE - 1, Integer.MAX_VALUE,
        Integer.MIN_VALUE, Integer.MIN_VALUE + 1};

    public static void main(String[] args) {
        signedNumbers();
        numbersWithoutASign();
        hexadecimalDigits();
        digitsBehindAPoint();
        codesThatATableNames();
        textsAsTheyAre();
        allElseAsItStands();
        tablesWhenItIsAskedFor();
        whatALineIsAskedFor();
        noSuchSlot();
        noSuchLine();
        lengthsOfLines();
        lettersOfLines();
        check.end();
    }

    private static EventLog logged(String format, Object... arguments) {
        EventLog x = new EventLog();
        int site = Check.site(x, format);
        Check.log(x, 2, site, 50, arguments);
        x.flush(2);
        x.open();
        return x;
    }

    private static void prints(String slot, int number, String due) {
        check.same(slot + " of " + number, Check.line(logged(slot, number), 0), due);
        EventLog x = logged("<" + slot + ">", number);
        check.same(slot + " of " + number + " in signs", Check.line(x, 0), "<" + due + ">");
        check.same("length", x.length(0), due.length() + 2);
        check.same("the number", x.about(0, 0), number);
    }

    private static void signedNumbers() {
        check.sentence("{d} a signed number");
        for (int n : NUMBERS) {
            prints("{d}", n, "" + n);
        }
    }

    private static void numbersWithoutASign() {
        check.sentence("{u} the same 32 bits without a sign");
        for (int n : NUMBERS) {
            prints("{u}", n, Integer.toUnsignedString(n));
        }
    }

    private static void hexadecimalDigits() {
        check.sentence("{x} these in hexadecimal digits (0 .. 9, a .. f, no zeros before)");
        for (int n : NUMBERS) {
            prints("{x}", n, Integer.toHexString(n));
        }
        for (int digit = 0; digit < 16; digit++) {
            prints("{x}", digit, "" + "0123456789abcdef".charAt(digit));
            prints("{x}", digit << 28 | digit, Integer.toHexString(digit << 28 | digit));
        }
    }

    private static void digitsBehindAPoint() {
        check.sentence("{f1} to {f6} a signed number with so many digits behind a point (at least one before it)");
        for (int digits = 1; digits <= 6; digits++) {
            for (int n : NUMBERS) {
                prints("{f" + digits + "}", n, BigDecimal.valueOf(n, digits).toPlainString());
            }
        }
    }

    private static void codesThatATableNames() {
        check.sentence("{e0} to {e7} what the table of that number names it, or a signed number if that names it not");
        for (int table = 0; table < 8; table++) {
            for (int code : new int[] {Integer.MIN_VALUE, -32, -1, 0, 1, 30, 31, 32, 33, 256, Integer.MAX_VALUE}) {
                boolean isCode = code >= 0 && code <= 31;
                EventLog x = logged("<{e" + table + "}>", code);
                check.same("not named", Check.line(x, 0), "<" + code + ">");
                for (int t = 0; t < 8; t++) {
                    for (int c = 0; c < 32; c += 31) {
                        Check.name(x, t, c, t + "/" + c);
                    }
                }
                boolean isNamed = code == 0 || code == 31;
                check.same("its neighbours named", Check.line(x, 0), isNamed ? "<" + table + "/" + code + ">" : "<" + code + ">");
                if (isCode) {
                    Check.name(x, table, code, "N");
                    check.same("named", Check.line(x, 0), "<N>");
                }
                check.same("the number", x.about(0, 0), code);
            }
        }
    }

    private static void textsAsTheyAre() {
        check.sentence("{t} a text");
        for (int n = 0; n <= 16; n++) {
            String s = "{d}}\0\377 \n{{\200~12345".substring(0, n);
            check.same("a text of " + n, Check.line(logged("{t}", s), 0), s);
            check.same("two of " + n, Check.line(logged("a{t}{t}b", s, s), 0), "a" + s + s + "b");
        }
    }

    private static void allElseAsItStands() {
        check.sentence("all else is printed as it stands ({{ is one {, }} one })");
        check.same("an empty format", Check.line(logged(""), 0), "");
        StringBuilder all = new StringBuilder();
        for (int b = 32; b < 127; b++) {
            if (b != '{' && b != '}') {
                all.append((char) b);
            }
        }
        String first = all.substring(0, 80);
        check.same("80 signs", Check.line(logged(first), 0), first);
        check.same("the others", Check.line(logged(all.substring(80)), 0), all.substring(80));
        check.same("braces", Check.line(logged("{{"), 0), "{");
        check.same("braces", Check.line(logged("}}"), 0), "}");
        check.same("80 bytes of braces", Check.line(logged("{{}}".repeat(20)), 0), "{}".repeat(20));
        check.same("braces and slots", Check.line(logged("{{{d}}}{{{d}}}", 1, 2), 0), "{1}{2}");
        check.same("no slot in braces", Check.line(logged("{{d}}"), 0), "{d}");
    }

    private static void tablesWhenItIsAskedFor() {
        check.sentence("A line's text is its event printed by its site's format, as tables are when it is asked for");
        EventLog x = logged("{e4}", 9);
        check.same("length", x.length(0), 1);
        Check.name(x, 4, 9, "twelve signs");
        check.same("length", x.length(0), 12);
        check.same("the last letter", x.letter(0, 11), 's');
        Check.search(x, "twelve");
        check.same("count", x.count(), 1);
        Check.name(x, 4, 9, "x");
        check.same("length", x.length(0), 1);
        check.fails("the second letter", IndexOutOfBoundsException.class, () -> x.letter(0, 1));
        check.same("count", x.count(), 0);
        x.rotate();
        Check.name(x, 4, 9, "yz");
        check.same("after a rotate", Check.line(x, 0), "yz");
    }

    private static void whatALineIsAskedFor() {
        check.sentence("Of a line: -2 its writer, -1 its site, 0 .. 5 the number of that slot, or the size of its text");
        for (int writer = 0; writer < 4; writer++) {
            EventLog x = new EventLog();
            for (int k = 0; k < 40; k++) {
                Check.site(x, "{d}{t}{u}{t}{x}{f1}" + k);
            }
            int site = 13 * writer;
            Check.log(x, writer, site, 0, Integer.MIN_VALUE, "", Integer.MAX_VALUE, "0123456789abcdef", -1, 0);
            x.flush(writer);
            x.open();
            int[] due = {writer, site, Integer.MIN_VALUE, 0, Integer.MAX_VALUE, 16, -1, 0};
            for (int what = -2; what <= 5; what++) {
                check.same("about " + what, x.about(0, what), due[what + 2]);
            }
        }
    }

    private static void noSuchSlot() {
        check.sentence("NoSuchElementException, also when there is no such slot; IndexOutOfBoundsException for another what");
        for (int slots = 0; slots <= 6; slots++) {
            EventLog x = new EventLog();
            Check.site(x, "{u}".repeat(slots));
            for (int k = 0; k < slots; k++) {
                x.arg(70 + k);
            }
            x.log(0, 0, 0);
            x.flush(0);
            x.open();
            for (int what = 0; what <= 5; what++) {
                int slot = what;
                if (slot < slots) {
                    check.same("slot " + slot, x.about(0, slot), 70 + slot);
                } else {
                    check.fails("slot " + slot + " of " + slots, NoSuchElementException.class, () -> x.about(0, slot));
                }
            }
            for (int what : new int[] {Integer.MIN_VALUE, -256, -4, -3, 6, 7, 254, 256, Integer.MAX_VALUE}) {
                check.fails("what " + what, IndexOutOfBoundsException.class, () -> x.about(0, what));
            }
        }
    }

    private static void noSuchLine() {
        check.sentence("about, length, letter: NoSuchElementException: there is no such line");
        for (int lines = 0; lines <= 2; lines++) {
            EventLog x = new EventLog();
            Check.site(x, "a{d}");
            for (int k = 0; k < lines; k++) {
                Check.log(x, 0, 0, 0, k);
            }
            x.flush(0);
            x.open();
            for (int line : new int[] {Integer.MIN_VALUE, -256, -1, 0, 1, 2, 3, 256, Integer.MAX_VALUE}) {
                if (line >= 0 && line < lines) {
                    check.same("about", x.about(line, 0), line);
                    check.same("length", x.length(line), 2);
                    check.same("letter", x.letter(line, 1), '0' + line);
                } else {
                    check.fails("about " + line, NoSuchElementException.class, () -> x.about(line, 0));
                    check.fails("length " + line, NoSuchElementException.class, () -> x.length(line));
                    check.fails("letter " + line, NoSuchElementException.class, () -> x.letter(line, 0));
                }
            }
        }
    }

    private static void lengthsOfLines() {
        check.sentence("How many bytes a line's text has");
        check.same("none", logged("").length(0), 0);
        check.same("80", logged("x".repeat(80)).length(0), 80);
        String s = "0123456789abcdef";
        EventLog x = logged("{t}".repeat(6) + "x".repeat(62), s, s, s, s, s, s);
        check.same("the longest", x.length(0), 96 + 62);
        check.same("its text", Check.line(x, 0), s.repeat(6) + "x".repeat(62));
        int least = Integer.MIN_VALUE;
        EventLog y = logged("{f6}".repeat(6) + "x".repeat(56), least, least, least, least, least, least);
        check.same("long numbers", Check.line(y, 0), "-2147.483648".repeat(6) + "x".repeat(56));
        EventLog z = logged("x".repeat(56) + "{e7}".repeat(6), 5, 5, 5, 5, 5, 5);
        Check.name(z, 7, 5, "twelve signs");
        check.same("long names", Check.line(z, 0), "x".repeat(56) + "twelve signs".repeat(6));
    }

    private static void lettersOfLines() {
        check.sentence("Byte i of a line's text, 0 .. 255. IndexOutOfBoundsException");
        for (int n = 0; n <= 16; n++) {
            String s = "\0\1\37 \176\177\200\201\376\377abcdef".substring(0, n);
            EventLog x = logged("{t}", s);
            for (int i : new int[] {Integer.MIN_VALUE, -256, -1, n, n + 1, n + 16, 255, 256, Integer.MAX_VALUE}) {
                check.fails("letter " + i + " of " + n, IndexOutOfBoundsException.class, () -> x.letter(0, i));
            }
            for (int i = 0; i < n; i++) {
                check.same("letter " + i, x.letter(0, i), s.charAt(i));
            }
        }
    }
}
