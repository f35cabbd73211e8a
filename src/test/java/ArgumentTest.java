/** Promises 5 (arg) and 6 (text). */
public final class ArgumentTest {
    private static final Check check = new Check("ArgumentTest");

    public static void main(String[] args) {
        argCounts();
        textCounts();
        textRefusesWhatIsTooLong();
        sixAreAll();
        argumentsAreKeptInTheirOrder();
        check.end();
    }

    private static void argCounts() {
        EventLog x = new EventLog();
        int[] numbers = {0, -1, Integer.MIN_VALUE, Integer.MAX_VALUE, 7, 7};
        for (int k = 0; k < 6; k++) {
            check.same("arg", x.arg(numbers[k]), k + 1);
        }
        check.fails("the seventh", UnsupportedOperationException.class, () -> x.arg(1));
        check.fails("the seventh again", UnsupportedOperationException.class, () -> x.arg(1));
    }

    private static void textCounts() {
        EventLog x = new EventLog();
        String[] texts = {"", "a", "1234567890123456", "\0\377", "{t}", ""};
        for (int k = 0; k < 6; k++) {
            check.same("text", Check.text(x, texts[k]), k + 1);
        }
        check.fails("the seventh", UnsupportedOperationException.class, () -> Check.text(x, "z"));
        check.same("the text was taken", Check.site(x, "y"), 0);
    }

    private static void textRefusesWhatIsTooLong() {
        EventLog x = new EventLog();
        check.fails("17 bytes", IllegalArgumentException.class, () -> Check.text(x, "12345678901234567"));
        check.fails("200 bytes", IllegalArgumentException.class, () -> Check.text(x, "x".repeat(200)));
        check.same("nothing came to the arguments, and the text was taken", x.text(), 1);
    }

    private static void sixAreAll() {
        EventLog x = new EventLog();
        for (int k = 0; k < 3; k++) {
            x.arg(k);
            Check.text(x, "t" + k);
        }
        check.fails("arg", UnsupportedOperationException.class, () -> x.arg(1));
        check.fails("text", UnsupportedOperationException.class, () -> Check.text(x, "a"));
        check.fails("too long comes first", IllegalArgumentException.class, () -> Check.text(x, "12345678901234567"));
        int site = Check.site(x, "{d}{t}{d}{t}{d}{t}");
        check.same("all six, unchanged", x.log(0, site, 0), 2 + 1 + 3 + 1 + 3 + 1 + 3);
    }

    private static void argumentsAreKeptInTheirOrder() {
        EventLog x = new EventLog();
        int site = Check.site(x, "{t}|{d}|{t}|{d}|{t}|{d}");
        Check.log(x, 0, site, 9, "one", 2, "1234567890123456", -4, "", Integer.MIN_VALUE);
        Check.log(x, 0, site, 9, "", 0, "\0\377{", 0, "z", 1);
        x.flush(0);
        x.open();
        check.same("first", Check.line(x, 0), "one|2|1234567890123456|-4||-2147483648");
        check.same("second", Check.line(x, 1), "|0|\0\377{|0|z|1");
    }
}
