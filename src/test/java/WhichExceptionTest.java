import java.util.NoSuchElementException;
import java.util.function.Supplier;

/** "where several exceptions that a call names fit, it is the one that it names first": all that can fit together. */
public final class WhichExceptionTest {
    private static final Check check = new Check("WhichExceptionTest");
    private static final String LONG = "sixteen bytes ..";

    public static void main(String[] args) {
        site();
        name();
        text();
        log();
        flush();
        crash();
        about();
        letter();
        where();
        search();
        check.end();
    }

    private static final String NO_SUCH = NoSuchElementException.class.getSimpleName();
    private static final String STATE = IllegalStateException.class.getSimpleName();
    private static final String WRONG = IllegalArgumentException.class.getSimpleName();
    private static final String FULL = UnsupportedOperationException.class.getSimpleName();
    private static final String OUTSIDE = IndexOutOfBoundsException.class.getSimpleName();

    private static String outcome(Supplier<Object> call) {
        try {
            return "" + call.get();
        } catch (RuntimeException e) {
            return e.getClass().getSimpleName();
        }
    }

    private static void is(String what, String due, Supplier<Object> call) {
        check.same(what, outcome(call), due);
    }

    private static void site() {
        check.sentence("site: UnsupportedOperationException when there are 40 sites, and it is right and of none");
        EventLog x = new EventLog();
        for (int k = 0; k < 40; k++) {
            Check.site(x, "s" + k);
        }
        is("a fault and 40 sites", "-2", () -> Check.site(x, "{"));
        is("the 81st and 40 sites", "-81", () -> Check.site(x, "x".repeat(81)));
        is("known and 40 sites", "3", () -> Check.site(x, "s3"));
        is("new and 40 sites", FULL, () -> Check.site(x, "s"));
    }

    private static void name() {
        check.sentence("name: NoSuchElementException; IllegalArgumentException");
        int[][] places = {{0, 0}, {7, 31}, {-1, 0}, {8, 0}, {0, -1}, {0, 32}, {8, 32}};
        for (int[] p : places) {
            boolean isThere = p[0] >= 0 && p[0] <= 7 && p[1] >= 0 && p[1] <= 31;
            for (String s : new String[] {"right", "", "thirteen byte", "\n"}) {
                EventLog x = new EventLog();
                is("name " + p[0] + " " + p[1], !isThere ? NO_SUCH : s.equals("right") ? "named" : WRONG, () -> {
                    Check.name(x, p[0], p[1], s);
                    return "named";
                });
            }
        }
    }

    private static void text() {
        check.sentence("text: IllegalArgumentException when it has more than 16 bytes; UnsupportedOperationException when there are six");
        for (int arguments = 5; arguments <= 6; arguments++) {
            for (int n = 16; n <= 17; n++) {
                EventLog x = new EventLog();
                for (int k = 0; k < arguments; k++) {
                    x.arg(k);
                }
                String s = "x".repeat(n);
                is(n + " bytes behind " + arguments, n > 16 ? WRONG : arguments == 6 ? FULL : "6", () -> Check.text(x, s));
            }
        }
    }

    /** Writer 1's block has no room for a long event; and the file may have 24 blocks. */
    private static EventLog nearlyFull(boolean isFull) {
        EventLog x = new EventLog();
        Check.site(x, "");
        Check.site(x, "{t}{t}{t}{t}{t}{t}");
        for (int k = 0; k < (isFull ? 24 : 23); k++) {
            x.log(0, 0, 10);
            x.flush(0);
        }
        for (int k = 0; k < 2; k++) {
            Check.log(x, 1, 1, 10, LONG, LONG, LONG, LONG, LONG, LONG);
        }
        return x;
    }

    private static final int[][] PLACES = {{1, 1}, {-1, 1}, {4, 1}, {1, -1}, {1, 2}, {4, 2}};
    private static final long[] TIMES = {10, 9, -1, Long.MIN_VALUE};

    private static void log() {
        check.sentence("log: NoSuchElementException; IllegalStateException; IllegalArgumentException; UnsupportedOperationException");
        for (int[] place : PLACES) {
            for (long time : TIMES) {
                for (int missing = 0; missing <= 2; missing++) {
                    logs(place[0], place[1], time, missing);
                }
            }
        }
    }

    /** Missing: 0 nothing, 1 the last text, 2 it is a number. */
    private static void logs(int writer, int site, long time, int missing) {
        for (int state = 0; state < 4; state++) {
            boolean isCut = state >= 2;
            boolean isFull = state % 2 == 1;
            EventLog x = nearlyFull(isFull);
            if (isCut) {
                x.crash(0);
            }
            for (int k = 0; k < 5; k++) {
                Check.text(x, LONG);
            }
            if (missing == 0) {
                Check.text(x, LONG);
            } else if (missing == 2) {
                x.arg(1);
            }
            boolean isThere = writer == 1 && site == 1;
            boolean isRight = time == 10 && missing == 0;
            String due = !isThere ? NO_SUCH : isCut ? STATE : !isRight ? WRONG : isFull ? FULL : "104";
            is("log " + writer + " " + site + " " + time + " " + missing + " " + state, due, () -> x.log(writer, site, time));
        }
    }

    private static void flush() {
        check.sentence("flush: NoSuchElementException; IllegalStateException as for log; UnsupportedOperationException when there is no room");
        for (int writer = -1; writer <= 4; writer++) {
            for (int state = 0; state < 4; state++) {
                boolean isCut = state >= 2;
                boolean isFull = state % 2 == 1;
                EventLog x = nearlyFull(isFull);
                if (isCut) {
                    x.crash(0);
                }
                int w = writer;
                boolean isThere = writer >= 0 && writer <= 3;
                String answered = "" + (isFull || writer == 1 ? 24 : 23);
                String due = !isThere ? NO_SUCH : isCut ? STATE : isFull && writer == 1 ? FULL : answered;
                is("flush " + writer + " " + state, due, () -> x.flush(w));
            }
        }
    }

    private static void crash() {
        check.sentence("crash: IllegalArgumentException when n is below 0; IllegalStateException as for log");
        for (int n = -1; n <= 0; n++) {
            for (int crashes = 0; crashes <= 1; crashes++) {
                EventLog x = nearlyFull(false);
                for (int k = 0; k < crashes; k++) {
                    x.crash(0);
                }
                int bytes = n;
                is("crash " + n + " after " + crashes, n < 0 ? WRONG : crashes > 0 ? STATE : "5888", () -> x.crash(bytes));
            }
        }
    }

    private static EventLog oneLine() {
        EventLog x = new EventLog();
        Check.log(x, 0, Check.site(x, "{d}"), 0, 5);
        x.flush(0);
        x.open();
        return x;
    }

    private static void about() {
        check.sentence("about: NoSuchElementException, also when there is no such slot; IndexOutOfBoundsException for another what");
        EventLog x = oneLine();
        for (int line = -1; line <= 1; line++) {
            for (int what = -4; what <= 8; what++) {
                int l = line;
                int w = what;
                String there = what < -2 || what > 5 ? OUTSIDE : what > 0 ? NO_SUCH : what == 0 ? "5" : "0";
                is("about " + line + " " + what, line == 0 ? there : NO_SUCH, () -> x.about(l, w));
            }
        }
    }

    private static void letter() {
        check.sentence("letter: NoSuchElementException; IndexOutOfBoundsException");
        EventLog x = oneLine();
        for (int line = -1; line <= 1; line++) {
            for (int i = -1; i <= 1; i++) {
                int l = line;
                int at = i;
                is("letter " + line + " " + i, line != 0 ? NO_SUCH : i != 0 ? OUTSIDE : "53", () -> x.letter(l, at));
            }
        }
    }

    private static void where() {
        check.sentence("where: IllegalArgumentException for another kind; UnsupportedOperationException when it has four");
        for (int terms = 3; terms <= 4; terms++) {
            for (int kind = -1; kind <= 4; kind++) {
                EventLog x = new EventLog();
                for (int k = 0; k < terms; k++) {
                    x.where(0, 0, 0);
                }
                int which = kind;
                boolean isKind = kind >= 0 && kind <= 3;
                is("where " + kind + " behind " + terms, !isKind ? WRONG : terms == 4 ? FULL : "4", () -> x.where(which, 0, 0));
            }
        }
    }

    private static void search() {
        check.sentence("search: IllegalArgumentException when it is empty or has more than 24 bytes; UnsupportedOperationException when it has four");
        for (int terms = 3; terms <= 4; terms++) {
            for (int n : new int[] {0, 1, 24, 25, 200}) {
                EventLog x = new EventLog();
                for (int k = 0; k < terms; k++) {
                    x.where(0, 0, 0);
                }
                String s = "x".repeat(n);
                boolean isRight = n >= 1 && n <= 24;
                is(n + " bytes behind " + terms, !isRight ? WRONG : terms == 4 ? FULL : "4", () -> Check.search(x, s));
            }
        }
    }
}
