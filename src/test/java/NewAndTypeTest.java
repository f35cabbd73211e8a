import java.util.NoSuchElementException;

/** Promises 1 (a new object) and 2 (type). */
public final class NewAndTypeTest {
    private static final Check check = new Check("NewAndTypeTest");

    public static void main(String[] args) {
        aNewObjectIsEmpty();
        aNewObjectNamesNothing();
        typePutsTheLowestByteFirst();
        typeRefusesWrongCounts();
        typeHoldsTwoHundredBytes();
        check.end();
    }

    private static void aNewObjectIsEmpty() {
        EventLog x = new EventLog();
        check.same("size", x.size(), 0);
        check.same("broken", x.broken(), 0);
        check.same("count", x.count(), 0);
        check.same("find", x.find(0), -1);
        check.same("distinct", x.distinct(0), 0);
        check.same("clear", x.clear(), 0);
        check.fails("time", NoSuchElementException.class, () -> x.time(0));
        check.fails("byteOf", IndexOutOfBoundsException.class, () -> x.byteOf(0));
        check.fails("log", NoSuchElementException.class, () -> x.log(0, 0, 0));
        check.same("open", x.open(), 0);
        check.same("broken of an empty file", x.broken(), 0);
        check.same("first argument", x.arg(3), 1);
        check.same("the empty text is the first site", x.site(), 0);
        for (int w = 0; w < 4; w++) {
            check.same("flush of no events", x.flush(w), 0);
        }
        EventLog y = new EventLog();
        check.same("another object has its own sites", Check.site(y, "y"), 0);
        check.same("another object has its own text", x.type(0, 8), true);
    }

    private static void aNewObjectNamesNothing() {
        EventLog x = new EventLog();
        Check.site(x, "{e0}{e1}{e2}{e3}{e4}{e5}");
        Check.site(x, "{e6}{e7}");
        Check.log(x, 0, 0, 0, 0, 1, 5, 30, 31, 32);
        Check.log(x, 0, 1, 0, 0, 31);
        x.flush(0);
        x.open();
        check.same("no names", Check.line(x, 0), "015303132");
        check.same("no names", Check.line(x, 1), "031");
    }

    private static void typePutsTheLowestByteFirst() {
        EventLog x = new EventLog();
        check.same("eight", x.type(0x6867666564636261L, 8), true);
        check.same("of more than n the lowest", x.type(0x7A7A7A7A7A7A6A69L, 2), true);
        check.same("one of a negative word", x.type(-1L << 8 | 'k', 1), true);
        check.same("site", x.site(), 0);
        check.same("the same text typed one by one", Check.site(x, "abcdefghijk"), 0);
        check.same("the text was taken", Check.site(x, "k"), 1);
        x.type(-1, 1);
        check.same("byte 255 is no sign", x.site(), -1);
    }

    private static void typeRefusesWrongCounts() {
        EventLog x = new EventLog();
        Check.type(x, "ab");
        int[] wrong = {0, 9, -1, 16, Integer.MIN_VALUE, Integer.MAX_VALUE};
        for (int n : wrong) {
            check.same("type of " + n, x.type('z', n), false);
        }
        x.site();
        check.same("nothing was changed", Check.site(x, "ab"), 0);
    }

    private static void typeHoldsTwoHundredBytes() {
        EventLog x = new EventLog();
        for (int k = 0; k < 24; k++) {
            check.same("type", x.type(0x2020202020202020L, 8), true);
        }
        check.same("to 199", x.type(0x20202020202020L, 7), true);
        check.same("to 201", x.type(0x2020, 2), false);
        check.same("to 200", x.type(0x20, 1), true);
        check.same("to 201", x.type(0x20, 1), false);
        check.same("to 208", x.type(0x20, 8), false);
        check.same("the 81st", x.site(), -81);
        check.same("room again", x.type(0x2020202020202020L, 8), true);
    }
}
