/** Promise 3 (site), and a format's faults. */
public final class SiteTest {
    private static final Check check = new Check("SiteTest");
    private static final String SIX = "{d}{u}{x}{f1}{e0}{t}";

    public static void main(String[] args) {
        rightFormats();
        faultsBehindBraces();
        faultsOfBytes();
        faultsWithSixSlots();
        faultsAtTheEightyFirst();
        theSameFormatIsTheSameSite();
        fortySites();
        theTextIsTakenWhateverComes();
        check.end();
    }

    private static void answers(String format, int due) {
        check.same("site of " + format, Check.site(new EventLog(), format), due);
    }

    private static void rightFormats() {
        String[] right = {"", " ", "~", "plain", "{{", "}}", "{{}}", "{d}", "{u}", "{x}", "{t}", "{f1}", "{f6}", "{e0}", "{e7}",
            "{d}}}", "{{{d}}}", "{{d}}", SIX, SIX + "{{", "{{" + SIX + "}}", SIX + "{{{{", "x".repeat(80), "x".repeat(77) + "{d}",
            "x".repeat(78) + "{{", "x".repeat(78) + "}}"};
        for (String s : right) {
            answers(s, 0);
        }
    }

    private static void faultsBehindBraces() {
        answers("{", -2);
        answers("}", -2);
        answers("}x", -2);
        answers("x}", -3);
        answers("{d}}", -5);
        answers("{d}}x", -5);
        answers("{{}", -4);
        answers("{{d}", -5);
        answers("{{{", -4);
        answers("{}", -2);
        answers("{ d}", -2);
        answers("{D}", -2);
        answers("{g}", -2);
        answers("{d", -3);
        answers("{dd}", -3);
        answers("{d{", -3);
        answers("{t1}", -3);
        answers("{u", -3);
        answers("{f", -3);
        answers("{f}", -3);
        answers("{f0}", -3);
        answers("{f7}", -3);
        answers("{f1", -4);
        answers("{f11}", -4);
        answers("{e}", -3);
        answers("{e8}", -3);
        answers("{e/}", -3);
        answers("{e0", -4);
        answers("{e00}", -4);
        answers("ab{d}cd{q}{z}", -9);
        answers("}{", -2);
        answers("}}}{", -4);
    }

    private static void faultsOfBytes() {
        answers("\37", -1);
        answers("\177", -1);
        answers("\200", -1);
        answers("\0", -1);
        answers("\377", -1);
        answers("ab\n", -3);
        answers("{\n}", -2);
        answers("{d\n", -3);
        answers("}\n", -2);
        answers("{q}\n", -2);
        answers("\n{q}", -1);
    }

    private static void faultsWithSixSlots() {
        String six = "{d}".repeat(6);
        answers(six + "{", -19);
        answers(six + "{d}", -19);
        answers(six + "{q}", -19);
        answers(six + "{\n", -19);
        answers(six + "x{}", -20);
        answers(six + "{{{", -21);
        answers(six + "{{{d}", -21);
        answers(six + "{{}", -22);
        answers(six + "\n{", -19);
        answers("{{" + six + "{", -21);
        answers("{d}".repeat(5) + "{q}", -17);
        answers("{d}".repeat(5) + "{", -17);
    }

    private static void faultsAtTheEightyFirst() {
        answers("x".repeat(81), -81);
        answers("x".repeat(200), -81);
        answers("x".repeat(78) + "{d}", -81);
        answers("x".repeat(78) + "{d", -81);
        answers("x".repeat(79) + "{{", -81);
        answers("x".repeat(79) + "{", -81);
        answers("x".repeat(79) + "{q", -81);
        answers("x".repeat(79) + "}}", -81);
        answers("x".repeat(80) + "\n", -81);
        answers("x".repeat(79) + "\n" + "x", -80);
        answers("x".repeat(90) + "\n", -81);
        answers("{q}" + "x".repeat(90), -2);
        String six = "{d}".repeat(6) + "x".repeat(61);
        answers(six + "{{", -81);
        answers(six + "{", -80);
        answers(six + "{x", -80);
        answers(six + "x{", -81);
    }

    private static void theSameFormatIsTheSameSite() {
        EventLog x = new EventLog();
        check.same("first", Check.site(x, "a{d}"), 0);
        check.same("second", Check.site(x, "a{u}"), 1);
        check.same("longer", Check.site(x, "a{d} "), 2);
        check.same("shorter", Check.site(x, "a"), 3);
        check.same("empty", Check.site(x, ""), 4);
        check.same("another digit", Check.site(x, "{f1}"), 5);
        check.same("another digit", Check.site(x, "{f2}"), 6);
        check.same("first again", Check.site(x, "a{d}"), 0);
        check.same("empty again", Check.site(x, ""), 4);
        check.same("digit again", Check.site(x, "{f1}"), 5);
        check.same("a fault makes no site", Check.site(x, "{"), -2);
        check.same("next", Check.site(x, "next"), 7);
    }

    private static void fortySites() {
        EventLog x = new EventLog();
        for (int k = 0; k < 40; k++) {
            check.same("site", Check.site(x, "s" + k), k);
        }
        check.fails("the 41st", UnsupportedOperationException.class, () -> Check.site(x, "s40"));
        check.same("one that there is", Check.site(x, "s39"), 39);
        check.same("one with a fault", Check.site(x, "s40{"), -5);
        check.fails("the 41st again", UnsupportedOperationException.class, () -> Check.site(x, ""));
        check.same("the last one logs", x.log(0, 39, 0), 2);
    }

    private static void theTextIsTakenWhateverComes() {
        EventLog x = new EventLog();
        Check.site(x, "ab{");
        check.same("empty after a fault", Check.site(x, "ab"), 0);
        for (int k = 1; k < 40; k++) {
            Check.site(x, "s" + k);
        }
        check.fails("the 41st", UnsupportedOperationException.class, () -> Check.site(x, "abc"));
        check.same("empty after the throw", Check.site(x, "ab"), 0);
    }
}
