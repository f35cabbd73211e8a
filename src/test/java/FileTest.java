import java.util.NoSuchElementException;

/** Promises 8 (flush), 9 (rotate), 10 (crash), 11 (size), 12 (byteOf) and 13 (damage). */
public final class FileTest {
    private static final Check check = new Check("FileTest");

    public static void main(String[] args) {
        flushWritesABlock();
        flushMakesAllDurable();
        flushRefuses();
        flushOfAFullFile();
        rotateBeginsANewFile();
        rotateKeepsTheRest();
        rotateLeavesNoOldBytes();
        crashLosesWhatIsNotDurable();
        crashLeavesSomeBytes();
        crashRefuses();
        sizeAndByteOf();
        damageChangesAByte();
        check.end();
    }

    private static EventLog withSites() {
        EventLog x = new EventLog();
        Check.site(x, "");
        Check.site(x, "{t}{t}{t}{t}{t}{t}");
        return x;
    }

    /** Makes a writer's block go to the file without a flush. */
    private static void fill(EventLog x, int writer, long time) {
        String s = "abcdefghijklmnop";
        int before = x.size();
        while (x.size() == before) {
            Check.log(x, writer, 1, time, s, s, s, s, s, s);
        }
    }

    private static void flushWritesABlock() {
        EventLog x = withSites();
        check.same("no events", x.flush(0), 0);
        x.log(2, 0, 258);
        x.log(2, 0, 259);
        check.same("of another writer", x.flush(1), 0);
        check.same("of its writer", x.flush(2), 1);
        check.same("again", x.flush(2), 1);
        check.same("size", x.size(), 256);
        check.same("head and events", Check.file(x, 0, 20), "90 2 0 0 0 0 0 0 0 0 1 2 0 4 0 0 0 1 0 0");
        check.same("zeros", Check.file(x, 18, 252), "0 ".repeat(233) + "0");
        int s = Check.sum(x, 0);
        for (int k = 0; k < 4; k++) {
            check.same("sum", x.byteOf(252 + k), s >>> (24 - 8 * k) & 255);
        }
        check.same("its block is empty", x.log(2, 0, 259), 2);
        x.log(0, 0, 1);
        x.flush(0);
        x.flush(2);
        check.same("blocks are counted for each writer", Check.file(x, 256, 260), "90 0 0 0");
        check.same("blocks are counted for each writer", Check.file(x, 512, 516), "90 2 0 1");
    }

    private static void flushMakesAllDurable() {
        EventLog x = withSites();
        fill(x, 0, 1);
        fill(x, 1, 1);
        check.same("flush of a writer without events", x.flush(3), 2);
        fill(x, 0, 2);
        check.same("crash", x.crash(0), 512);
        EventLog y = withSites();
        fill(y, 0, 1);
        y.log(1, 0, 0);
        check.same("flush of a writer with events", y.flush(1), 2);
        check.same("crash", y.crash(0), 512);
    }

    private static void flushRefuses() {
        EventLog x = withSites();
        int[] wrong = {-1, 4, Integer.MIN_VALUE, Integer.MAX_VALUE};
        for (int w : wrong) {
            check.fails("flush " + w, NoSuchElementException.class, () -> x.flush(w));
        }
        x.log(0, 0, 0);
        x.crash(0);
        check.fails("cut", IllegalStateException.class, () -> x.flush(0));
        check.fails("writer before cut", NoSuchElementException.class, () -> x.flush(4));
        x.rotate();
        check.same("what it had was gone", x.flush(0), 0);
    }

    private static void flushOfAFullFile() {
        EventLog x = withSites();
        for (int k = 0; k < 23; k++) {
            x.log(0, 0, k);
            x.flush(0);
        }
        fill(x, 1, 0);
        check.same("24 blocks", x.size(), 24 * 256);
        check.fails("no room", UnsupportedOperationException.class, () -> x.flush(1));
        EventLog y = withSites();
        for (int k = 0; k < 24; k++) {
            y.log(0, 0, k);
            y.flush(0);
        }
        check.same("no events need no room", y.flush(0), 24);
        check.same("what was not durable by the throw is lost", x.crash(0), 23 * 256);
    }

    private static void rotateBeginsANewFile() {
        EventLog x = withSites();
        x.log(0, 0, 1000);
        x.flush(0);
        x.log(0, 0, 1000);
        x.log(1, 0, 1000);
        x.rotate();
        check.same("size", x.size(), 0);
        check.fails("byteOf", IndexOutOfBoundsException.class, () -> x.byteOf(0));
        check.same("no events are left", x.flush(0), 0);
        check.same("no events are left", x.flush(1), 0);
        check.same("an earlier time", x.log(0, 0, 5), 2);
        check.same("flush", x.flush(0), 1);
        check.same("its blocks are counted anew", Check.file(x, 0, 16), "90 0 0 0 0 0 0 0 0 0 0 5 0 2 0 0");
        EventLog y = withSites();
        y.log(0, 0, 0);
        y.flush(0);
        y.rotate();
        fill(y, 0, 0);
        check.same("nothing of it is durable", y.crash(0), 0);
        y.rotate();
        check.same("it is not cut", y.crash(0), 0);
    }

    private static void rotateKeepsTheRest() {
        EventLog x = withSites();
        Check.site(x, "{e0}");
        Check.name(x, 0, 3, "three");
        Check.log(x, 0, 2, 7, 3);
        x.flush(0);
        x.log(1, 0, 9);
        x.flush(1);
        x.damage(256, 0);
        x.open();
        x.where(1, 0, 0);
        x.arg(1);
        Check.type(x, "abc");
        x.rotate();
        check.same("a line", Check.line(x, 0), "three");
        check.same("broken", x.broken(), 1);
        check.same("the query", x.count(), 1);
        check.same("the arguments", x.arg(1), 2);
        check.same("the text", x.site(), 3);
        check.same("the terms", x.clear(), 1);
        check.same("the new file has no lines", x.open(), 0);
        check.same("nor broken blocks", x.broken(), 0);
        check.fails("no lines", NoSuchElementException.class, () -> x.time(0));
    }

    private static void rotateLeavesNoOldBytes() {
        EventLog x = withSites();
        fill(x, 0, 99);
        x.rotate();
        x.log(0, 0, 0);
        x.flush(0);
        check.same("zeros behind the events", Check.file(x, 16, 252), "0 ".repeat(235) + "0");
        Check.site(x, "{d}");
        Check.log(x, 1, 2, 0, 5);
        x.rotate();
        check.same("no last numbers", Check.log(x, 1, 2, 0, 5), 3);
        x.flush(1);
        check.same("no last numbers", x.byteOf(16), 69);
    }

    private static void crashLosesWhatIsNotDurable() {
        EventLog x = withSites();
        x.log(0, 0, 1);
        x.flush(0);
        fill(x, 0, 2);
        x.log(1, 0, 3);
        check.same("two blocks", x.size(), 512);
        check.same("crash", x.crash(0), 256);
        check.same("size", x.size(), 256);
        check.same("open", x.open(), 1);
        check.same("broken", x.broken(), 0);
        EventLog y = withSites();
        fill(y, 0, 2);
        check.same("nothing was durable", y.crash(0), 0);
        check.same("open", y.open(), 0);
    }

    private static void crashLeavesSomeBytes() {
        int[][] rows = {{0, 256, 0}, {1, 257, 1}, {255, 511, 1}, {256, 512, 0}, {257, 513, 1}, {512, 768, 0}, {513, 768, 0},
            {Integer.MAX_VALUE, 768, 0}};
        for (int[] row : rows) {
            EventLog x = withSites();
            x.log(0, 0, 1);
            x.flush(0);
            fill(x, 0, 2);
            fill(x, 1, 2);
            x.log(2, 0, 2);
            check.same("crash " + row[0], x.crash(row[0]), row[1]);
            check.same("size", x.size(), row[1]);
            x.open();
            check.same("broken", x.broken(), row[2]);
            check.fails("byte behind", IndexOutOfBoundsException.class, () -> x.byteOf(row[1]));
            check.same("first byte", x.byteOf(0), 90);
        }
    }

    private static void crashRefuses() {
        EventLog x = withSites();
        x.log(0, 0, 1);
        check.fails("below 0", IllegalArgumentException.class, () -> x.crash(-1));
        check.fails("far below 0", IllegalArgumentException.class, () -> x.crash(Integer.MIN_VALUE));
        check.same("nothing was lost by it", x.log(0, 0, 1), 4);
        check.same("crash", x.crash(5), 0);
        check.fails("cut", IllegalStateException.class, () -> x.crash(0));
        check.fails("n before cut", IllegalArgumentException.class, () -> x.crash(-1));
        x.rotate();
        check.same("a new file can be cut", x.crash(5), 0);
    }

    private static void sizeAndByteOf() {
        EventLog x = withSites();
        check.same("size", x.size(), 0);
        x.log(0, 0, -1L >>> 1);
        check.same("size before the flush", x.size(), 0);
        x.flush(0);
        check.same("size", x.size(), 256);
        check.same("a byte above 127", x.byteOf(5), 255);
        check.same("the first", x.byteOf(0), 90);
        check.same("the last", x.byteOf(255), Check.sum(x, 0) & 255);
        int[] wrong = {-1, 256, 6144, Integer.MIN_VALUE, Integer.MAX_VALUE};
        for (int i : wrong) {
            check.fails("byteOf " + i, IndexOutOfBoundsException.class, () -> x.byteOf(i));
            check.fails("damage " + i, IndexOutOfBoundsException.class, () -> x.damage(i, 1));
        }
    }

    private static void damageChangesAByte() {
        EventLog x = withSites();
        x.log(0, 0, 1);
        x.flush(0);
        x.damage(0, -1);
        check.same("the lowest eight bits", x.byteOf(0), 255);
        x.damage(255, 0x12345678);
        check.same("the lowest eight bits", x.byteOf(255), 0x78);
        x.damage(1, 256);
        check.same("the lowest eight bits", x.byteOf(1), 0);
        check.same("open", x.open(), 0);
        check.same("broken", x.broken(), 1);
        x.log(0, 0, 1);
        check.same("the file goes on", x.flush(0), 2);
        check.same("the damage stays", x.byteOf(0), 255);
        check.same("open", x.open(), 1);
        x.crash(0);
        x.damage(511, 0);
        check.same("a cut file can be damaged", x.byteOf(511), 0);
    }
}
