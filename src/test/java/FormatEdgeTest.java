import java.util.NoSuchElementException;

/** The boundary cases of formats, sites and tables: promises 3 and 4, and what "Terms" says of them. */
public final class FormatEdgeTest {
    private static final Check check = new Check("FormatEdgeTest");
    private static final String SIX = "{d}{u}{x}{f1}{e0}{t}";
    private static final String[] TOKENS = {"a", "{{", "}}", "{d}", "{u}", "{x}", "{f1}", "{f6}", "{e0}", "{e7}", "{t}"};

    public static void main(String[] args) {
        bytesOutside();
        bytesBehindAnOpening();
        digits();
        bytesBeforeTheClosing();
        bytesBehindALoneClosing();
        bytesBehindASlot();
        sixSlots();
        theEnd();
        eightyBytes();
        theFirstFaultCounts();
        theAnswerOfAFault();
        theNumberThatItHas();
        fortySites();
        tablesAndCodes();
        namesOfOneToTwelveBytes();
        bytesOfAName();
        insteadOfWhatItHad();
        namesSideBySide();
        check.end();
    }

    /** What site() answers for a fault there. */
    private static int at(int place) {
        return -place - 1;
    }

    private static void answers(String format, int due) {
        check.same("site of '" + format + "'", Check.site(new EventLog(), format), due);
    }

    private static boolean isSign(int b) {
        return b >= 32 && b <= 126;
    }

    private static void bytesOutside() {
        check.sentence("FAULTS: a byte that is not 32 .. 126");
        for (int b = 0; b < 256; b++) {
            String s = "" + (char) b;
            boolean isBrace = b == '{' || b == '}';
            answers(s, !isSign(b) ? at(0) : isBrace ? at(1) : 0);
            answers("a" + s + "a", !isSign(b) ? at(1) : isBrace ? at(2) : 0);
            answers("x".repeat(79) + s, !isSign(b) ? at(79) : isBrace ? at(80) : 0);
            answers("{d}" + s, !isSign(b) ? at(3) : isBrace ? at(4) : 0);
        }
    }

    private static void bytesBehindAnOpening() {
        check.sentence("a byte behind { with which there can be no slot any more");
        for (int b = 0; b < 256; b++) {
            String s = "{" + (char) b;
            int due = b == '{' ? at(3) : b == 'f' || b == 'e' ? at(2) : "duxt".indexOf(b) >= 0 ? 0 : at(1);
            answers(s + "}", due);
            boolean canGoOn = "duxtfe".indexOf(b) >= 0;
            answers(s, b == '{' ? 0 : canGoOn ? at(2) : at(1));
        }
    }

    private static void digits() {
        check.sentence("{f1} to {f6}; {e0} to {e7}");
        for (int b = 0; b < 256; b++) {
            answers("{f" + (char) b + "}", b >= '1' && b <= '6' ? 0 : at(2));
            answers("{e" + (char) b + "}", b >= '0' && b <= '7' ? 0 : at(2));
            answers("{f" + (char) b, b >= '1' && b <= '6' ? at(3) : at(2));
            answers("{e" + (char) b, b >= '0' && b <= '7' ? at(3) : at(2));
        }
    }

    private static void bytesBeforeTheClosing() {
        check.sentence("a byte behind { with which there can be no slot any more: where the } of a slot is due");
        String[] open = {"{d", "{u", "{x", "{t", "{f1", "{f6", "{e0", "{e7"};
        for (String s : open) {
            for (int b = 0; b < 256; b++) {
                answers(s + (char) b, b == '}' ? 0 : at(s.length()));
            }
        }
    }

    private static void bytesBehindALoneClosing() {
        check.sentence("one behind a } that is no }");
        for (int b = 0; b < 256; b++) {
            answers("}" + (char) b, b == '}' ? 0 : at(1));
            answers("{{}" + (char) b, b == '}' ? 0 : at(3));
            answers("}}}" + (char) b, b == '}' ? 0 : at(3));
        }
    }

    private static void bytesBehindASlot() {
        check.sentence("(and did not end a slot)");
        for (String slot : new String[] {"{d}", "{u}", "{x}", "{t}", "{f3}", "{e3}"}) {
            for (int b = 32; b < 127; b++) {
                boolean isBrace = b == '{' || b == '}';
                answers(slot + (char) b, isBrace ? at(slot.length() + 1) : 0);
            }
            answers(slot + "}}", 0);
            answers(slot + "}a", at(slot.length() + 1));
            answers(slot + slot, 0);
        }
    }

    private static void sixSlots() {
        check.sentence("with six slots a { behind which no { stands (also as the last byte)");
        for (int slots = 0; slots <= 8; slots++) {
            answers("{t}".repeat(slots), slots <= 6 ? 0 : at(18));
            answers("a{e1}".repeat(slots), slots <= 6 ? 0 : at(31));
        }
        answers(SIX + "{", at(20));
        answers("{d}".repeat(5) + "{", at(16));
        for (int b = 0; b < 256; b++) {
            answers(SIX + "{" + (char) b, b == '{' ? 0 : at(20));
            answers(SIX + "{" + (char) b + "}", b == '{' ? at(23) : at(20));
            answers(SIX + "{{{" + (char) b, b == '{' ? 0 : at(22));
        }
        for (String token : TOKENS) {
            boolean isSlot = token.length() > 2;
            answers(SIX + token, isSlot ? at(20) : 0);
            answers(token + SIX, isSlot ? at(token.length() + 17) : 0);
        }
    }

    private static void theEnd() {
        check.sentence("the end (at its size) where something is missing");
        for (String first : TOKENS) {
            for (String second : TOKENS) {
                String s = first + second;
                for (int n = 0; n <= s.length(); n++) {
                    boolean isWhole = n == 0 || n == first.length() || n == s.length();
                    answers(s.substring(0, n), isWhole ? 0 : at(n));
                }
            }
        }
    }

    private static void eightyBytes() {
        check.sentence("A FORMAT is a text of at most 80 bytes; FAULTS: the 81st");
        for (int n = 0; n <= 200; n++) {
            answers("x".repeat(n), n <= 80 ? 0 : at(80));
        }
        for (String token : TOKENS) {
            for (int n = 75; n <= 82; n++) {
                int from = n - token.length();
                answers("x".repeat(from) + token, n <= 80 ? 0 : at(80));
            }
        }
        for (int n = 78; n <= 82; n++) {
            answers("x".repeat(n) + "\n", at(Math.min(n, 80)));
            answers("x".repeat(n) + "{", at(Math.min(n + 1, 80)));
            answers("x".repeat(n) + "}", at(Math.min(n + 1, 80)));
            answers("x".repeat(n) + "{q", at(Math.min(n + 1, 80)));
            answers("x".repeat(n - 20) + SIX + "{", at(Math.min(n, 80)));
            answers("x".repeat(n - 20) + SIX + "{q", at(Math.min(n, 80)));
        }
        answers("x".repeat(59) + SIX + "{{", at(80));
        answers("x".repeat(58) + SIX + "{{", 0);
    }

    private static void theFirstFaultCounts() {
        check.sentence("FAULTS, the first one counts");
        String[] faults = {"\n", "\177", "{q", "{f0", "{e8", "{dd", "{}", "}x", "x{ "};
        int[] places = {0, 0, 1, 2, 2, 2, 1, 1, 2};
        for (int k = 0; k < faults.length; k++) {
            for (String later : faults) {
                answers(faults[k] + later, at(places[k]));
                answers("ok {d} " + faults[k] + "ok" + later, at(7 + places[k]));
            }
            answers(faults[k] + "x".repeat(100), at(places[k]));
            answers(SIX + "{x" + faults[k], at(20));
            answers("x".repeat(85) + faults[k], at(80));
        }
    }

    private static void theAnswerOfAFault() {
        check.sentence("or, less 1, the place of its fault, made negative (-1 for a fault at 0)");
        for (int place = 0; place <= 80; place++) {
            answers("x".repeat(place) + "\0", -1 - place);
        }
    }

    private static void theNumberThatItHas() {
        check.sentence("its site's number (the one that it has already, if it has)");
        EventLog x = new EventLog();
        String[] formats = {"", " ", "a", "aa", "A", "{d}", "{u}", "{f1}", "{f2}", "{e1}", "{e2}", "{{d}}", "x".repeat(79), "x".repeat(80),
            "x".repeat(79) + "y", "y" + "x".repeat(79)};
        for (int k = 0; k < formats.length; k++) {
            check.same("new: " + formats[k], Check.site(x, formats[k]), k);
        }
        for (int k = formats.length - 1; k >= 0; k--) {
            check.same("again: " + formats[k], Check.site(x, formats[k]), k);
        }
    }

    private static void fortySites() {
        check.sentence("UnsupportedOperationException when there are 40 sites, and it is right and of none");
        EventLog x = new EventLog();
        for (int k = 0; k < 40; k++) {
            check.same("site " + k, Check.site(x, "s" + k), k);
            check.same("a fault makes none", Check.site(x, "s}"), -3);
        }
        check.fails("right and of none", UnsupportedOperationException.class, () -> Check.site(x, "s40"));
        check.fails("the empty one", UnsupportedOperationException.class, x::site);
        check.same("of the first", Check.site(x, "s0"), 0);
        check.same("of the last", Check.site(x, "s39"), 39);
        check.same("a fault", Check.site(x, "s40}"), -5);
        check.same("a fault at 0", Check.site(x, "\n"), -1);
        check.fails("right and of none, again", UnsupportedOperationException.class, () -> Check.site(x, "s40"));
        check.same("the last one is a site", x.log(0, 39, 0), 2);
        check.fails("there is no 41st", NoSuchElementException.class, () -> x.log(0, 40, 0));
    }

    /** A line with codes 0, 31 of all tables. */
    private static EventLog named() {
        EventLog x = new EventLog();
        int first = Check.site(x, "{e0},{e1},{e2},{e3},{e4},{e5},");
        int second = Check.site(x, "{e6},{e7}");
        for (int code = 0; code < 32; code += 31) {
            Check.log(x, 0, first, 0, code, code, code, code, code, code);
            Check.log(x, 0, second, 0, code, code);
        }
        x.flush(0);
        x.open();
        return x;
    }

    private static String names(EventLog x) {
        return Check.line(x, 0) + Check.line(x, 1) + ";" + Check.line(x, 2) + Check.line(x, 3);
    }

    private static String namesDue(int table, int code) {
        StringBuilder s = new StringBuilder();
        for (int c = 0; c < 32; c += 31) {
            for (int t = 0; t < 8; t++) {
                s.append(t == table && c == code ? "N" : "" + c).append(t < 7 ? "," : c == 0 ? ";" : "");
            }
        }
        return s.toString();
    }

    private static void tablesAndCodes() {
        check.sentence("TABLES 0 .. 7 name codes 0 .. 31; NoSuchElementException");
        int[] numbers = {Integer.MIN_VALUE, -32, -8, -1, 0, 1, 7, 8, 9, 30, 31, 32, 33, 255, 256, Integer.MAX_VALUE};
        for (int table : numbers) {
            for (int code : numbers) {
                EventLog x = named();
                if (table >= 0 && table <= 7 && code >= 0 && code <= 31) {
                    Check.name(x, table, code, "N");
                } else {
                    check.fails("name " + table + " " + code, NoSuchElementException.class, () -> Check.name(x, table, code, "N"));
                }
                check.same("after name " + table + " " + code, names(x), namesDue(table, code));
            }
        }
        for (int code = -2; code <= 33; code++) {
            EventLog x = new EventLog();
            Check.log(x, 0, Check.site(x, "{e3}"), 0, code);
            x.flush(0);
            x.open();
            for (int c = 0; c < 32; c++) {
                Check.name(x, 3, c, "c" + c);
            }
            check.same("code " + code, Check.line(x, 0), code >= 0 && code <= 31 ? "c" + code : "" + code);
        }
    }

    private static void namesOfOneToTwelveBytes() {
        check.sentence("texts of 1 to 12 bytes; IllegalArgumentException when it is no such text");
        for (int n = 0; n <= 200; n += n < 14 ? 1 : 31) {
            EventLog x = named();
            String s = "abcdefghijklmnopqrst".repeat(10).substring(0, n);
            if (n >= 1 && n <= 12) {
                Check.name(x, 0, 0, s);
                check.same("a name of " + n, Check.line(x, 0), s + ",0,0,0,0,0,");
            } else {
                check.fails("a name of " + n, IllegalArgumentException.class, () -> Check.name(x, 0, 0, s));
                check.same("no name", names(x), namesDue(-1, -1));
            }
        }
    }

    private static void bytesOfAName() {
        check.sentence("texts of bytes 32 .. 126; IllegalArgumentException when it is no such text");
        for (int b = 0; b < 256; b++) {
            for (String around : new String[] {"", "a", "abcde"}) {
                for (String behind : new String[] {"", "z", "uvwxyz"}) {
                    EventLog x = new EventLog();
                    Check.log(x, 0, Check.site(x, "{e0}"), 0, 0);
                    x.flush(0);
                    x.open();
                    String s = around + (char) b + behind;
                    if (isSign(b)) {
                        Check.name(x, 0, 0, s);
                    } else {
                        check.fails("byte " + b, IllegalArgumentException.class, () -> Check.name(x, 0, 0, s));
                    }
                    check.same("byte " + b, Check.line(x, 0), isSign(b) ? s : "0");
                }
            }
        }
    }

    private static void insteadOfWhatItHad() {
        check.sentence("The text is taken as the name of a code in a table, instead of what it had");
        EventLog x = named();
        for (int n : new int[] {12, 1, 11, 2, 12}) {
            String s = "abcdefghijkl".substring(12 - n);
            Check.name(x, 0, 0, s);
            check.same("a name of " + n, Check.line(x, 0), s + ",0,0,0,0,0,");
        }
        check.fails("a wrong one", IllegalArgumentException.class, () -> Check.name(x, 0, 0, "1234567890123"));
        check.fails("an empty one", IllegalArgumentException.class, () -> x.name(0, 0));
        check.same("the name stays", Check.line(x, 0), "abcdefghijkl,0,0,0,0,0,");
    }

    /** The one behind is named first, so that what a name has too many would be seen. */
    private static void namesSideBySide() {
        check.sentence("TABLES 0 .. 7 name codes 0 .. 31 with texts of 1 to 12 bytes: each code its own");
        int[][] pairs = {{0, 0, 0, 1}, {0, 30, 0, 31}, {0, 31, 1, 0}, {3, 15, 3, 16}, {6, 31, 7, 0}, {7, 30, 7, 31}};
        for (int[] p : pairs) {
            for (int n = 1; n <= 12; n++) {
                EventLog x = new EventLog();
                Check.log(x, 0, Check.site(x, "{e" + p[0] + "},{e" + p[2] + "}"), 0, p[1], p[3]);
                x.flush(0);
                x.open();
                String first = "abcdefghijkl".substring(0, n);
                String second = "ABCDEFGHIJKL".substring(0, n);
                Check.name(x, p[2], p[3], second);
                Check.name(x, p[0], p[1], first);
                check.same("the one behind is named first", Check.line(x, 0), first + "," + second);
                Check.name(x, p[2], p[3], first);
                check.same("and again", Check.line(x, 0), first + "," + first);
            }
        }
    }
}
