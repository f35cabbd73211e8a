import java.util.NoSuchElementException;

/** Promise 4 (name). */
public final class NameTest {
    private static final Check check = new Check("NameTest");

    public static void main(String[] args) {
        namesArePrinted();
        aNameTakesTheOldOnesPlace();
        thereIsNoSuchTableOrCode();
        thereIsNoSuchText();
        check.end();
    }

    private static EventLog logged(int table, int code) {
        EventLog x = new EventLog();
        Check.site(x, "<{e" + table + "}>");
        Check.log(x, 0, 0, 0, code);
        x.flush(0);
        x.open();
        return x;
    }

    private static void namesArePrinted() {
        for (int table = 0; table < 8; table++) {
            for (int code = 0; code < 32; code += 31) {
                EventLog x = logged(table, code);
                check.same("without a name", Check.line(x, 0), "<" + code + ">");
                Check.name(x, (table + 1) % 8, code, "other table");
                Check.name(x, table, 31 - code, "other code");
                check.same("without a name", Check.line(x, 0), "<" + code + ">");
                Check.name(x, table, code, "n " + table + "~" + code);
                check.same("with a name", Check.line(x, 0), "<n " + table + "~" + code + ">");
            }
        }
    }

    private static void aNameTakesTheOldOnesPlace() {
        EventLog x = logged(3, 5);
        Check.name(x, 3, 5, "123456789012");
        check.same("twelve bytes", Check.line(x, 0), "<123456789012>");
        Check.name(x, 3, 5, "a");
        check.same("one byte", Check.line(x, 0), "<a>");
        check.same("length", x.length(0), 3);
        Check.name(x, 3, 5, "{d}");
        check.same("no slot in a name", Check.line(x, 0), "<{d}>");
    }

    private static void thereIsNoSuchTableOrCode() {
        EventLog x = logged(0, 0);
        int[][] wrong = {{-1, 0}, {8, 0}, {0, -1}, {0, 32}, {8, 32}, {Integer.MIN_VALUE, 0}, {0, Integer.MAX_VALUE}};
        for (int[] w : wrong) {
            check.fails("name " + w[0] + " " + w[1], NoSuchElementException.class, () -> Check.name(x, w[0], w[1], "x"));
            check.fails("before the text's fault", NoSuchElementException.class, () -> x.name(w[0], w[1]));
        }
        Check.name(x, 0, 0, "y");
        check.same("the text was taken", Check.line(x, 0), "<y>");
    }

    private static void thereIsNoSuchText() {
        EventLog x = logged(2, 2);
        String[] wrong = {"", "1234567890123", "a\37", "\177", "ab\200c", "\0", "\n"};
        for (String s : wrong) {
            check.fails("name", IllegalArgumentException.class, () -> Check.name(x, 2, 2, s));
        }
        check.same("nothing was named", Check.line(x, 0), "<2>");
        Check.name(x, 2, 2, "z");
        check.fails("the text was taken", IllegalArgumentException.class, () -> x.name(2, 2));
        check.same("the name stays", Check.line(x, 0), "<z>");
    }
}
