/** "An object is used for at most 512 calls after it has been made": the most that these calls can make of it. */
public final class CallsTest {
    private static final Check check = new Check("CallsTest");
    private static final int CALLS = 512;

    public static void main(String[] args) {
        check.sentence("An object is used for at most 512 calls after it has been made");
        everyCallIsALog();
        everyCallIsAnArgument();
        everyCallIsAFile();
        everyCallIsAType();
        theMostLines();
        theMostNumbers();
        twoObjectsAreApart();
        check.end();
    }

    private static void everyCallIsALog() {
        EventLog x = new EventLog();
        x.site();
        for (int call = 2; call <= CALLS - 6; call++) {
            int n = call - 1;
            check.same("log " + n, x.log(0, 0, n), (n - 1) % 119 * 2 + 2);
        }
        check.same("flush", x.flush(0), 5);
        check.same("open", x.open(), CALLS - 7);
        check.same("time", x.time(CALLS - 8), CALLS - 7);
        check.same("count", x.count(), CALLS - 7);
        check.same("find", x.find(CALLS - 8), CALLS - 8);
        check.same("broken", x.broken(), 0);
    }

    private static void everyCallIsAnArgument() {
        EventLog x = new EventLog();
        Check.site(x, "{d}");
        for (int call = 3; call + 1 <= CALLS - 3; call += 2) {
            x.arg(call * 1000);
            x.log(1, 0, call);
        }
        x.flush(1);
        check.same("open", x.open(), 253);
        check.same("distinct", x.distinct(0), 253);
    }

    private static void everyCallIsAFile() {
        EventLog x = new EventLog();
        x.site();
        for (int call = 2; call + 4 <= CALLS; call += 5) {
            x.log(2, 0, call);
            x.log(2, 0, call);
            check.same("flush", x.flush(2), 1);
            check.same("open", x.open(), 2);
            x.rotate();
        }
        check.same("the last file's", x.time(1), 507);
    }

    private static void everyCallIsAType() {
        EventLog x = new EventLog();
        for (int call = 1; call < CALLS; call++) {
            check.same("type", x.type('x', 1), call <= 200);
        }
        check.same("the 81st", x.site(), -81);
    }

    /**
     * 24 blocks of 119 lines each. The zeros behind a block's one event are events of site 0, too, if n says so: five bytes
     * of each block are damaged.
     */
    static EventLog mostLines() {
        EventLog x = new EventLog();
        x.site();
        for (int k = 0; k < 24; k++) {
            x.log(k % 4, 0, 100);
            x.flush(k % 4);
            int[] image = new int[252];
            image[0] = 90;
            image[1] = k % 4;
            image[3] = k / 4;
            image[11] = 100 - k / 4;
            image[13] = 238;
            int sum = 0;
            for (int b : image) {
                sum = sum * 31 + b;
            }
            x.damage(256 * k + 11, 100 - k / 4);
            x.damage(256 * k + 13, 238);
            for (int i = 0; i < 4; i++) {
                x.damage(256 * k + 252 + i, sum >>> 24 - 8 * i);
            }
        }
        return x;
    }

    private static void theMostLines() {
        EventLog x = mostLines();
        check.same("open", x.open(), 24 * 119);
        check.same("broken", x.broken(), 0);
        check.same("count", x.count(), 24 * 119);
        check.same("the first", x.time(0), 95);
        check.same("the last", x.time(24 * 119 - 1), 100);
        check.same("the last one's writer", x.about(24 * 119 - 1, -2), 3);
        check.same("the last one found", x.find(24 * 119 - 1), 24 * 119 - 1);
        check.same("none behind it", x.find(24 * 119), -1);
        x.where(1, 2, 0);
        check.same("a fourth of them", x.count(), 6 * 119);
        check.same("the first of these", x.find(0), 2 * 119);
        check.same("distinct", x.distinct(0), 0);
        check.same("again", x.open(), 24 * 119);
        x.rotate();
        check.same("none", x.open(), 0);
    }

    private static void theMostNumbers() {
        EventLog x = new EventLog();
        Check.site(x, "{d}{d}{d}{d}{d}{d}");
        for (int k = 0; k < 70; k++) {
            for (int slot = 0; slot < 6; slot++) {
                check.same("arg", x.arg((k + 1) * (slot % 2 == 0 ? 1000003 : -1000003)), slot + 1);
            }
            check.same("log", x.log(3, 0, 7), k % 7 * 32 + 32);
        }
        check.same("flush", x.flush(3), 10);
        check.same("open", x.open(), 70);
        check.same("distinct", x.distinct(5), 70);
        check.same("the last number", x.about(69, 5), 70 * -1000003);
    }

    private static void twoObjectsAreApart() {
        EventLog x = mostLines();
        EventLog y = new EventLog();
        x.open();
        check.same("another object's lines", y.open(), 0);
        check.same("another object's sites", Check.site(y, "y"), 0);
        check.same("another object's file", y.size(), 0);
        check.same("its own", x.count(), 24 * 119);
    }
}
