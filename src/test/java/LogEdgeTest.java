import java.util.NoSuchElementException;

/** The boundary cases of log(), flush(), rotate(), crash(), size(), byteOf() and damage(): promises 7 to 13. */
public final class LogEdgeTest {
    private static final Check check = new Check("LogEdgeTest");
    private static final String LONG = "sixteen bytes ..";

    public static void main(String[] args) {
        writersAndSites();
        cutByACrash();
        oneArgumentForEachSlot();
        theSlotsKinds();
        theArgumentsAreEmptyThen();
        timesNotBelowNought();
        timesNotBelowTheLast();
        theLastInThisFile();
        howManyBytesItsBlockHas();
        twentyFourBlocksByLog();
        flushOfAnyWriter();
        flushOfABlockWithoutEvents();
        flushMakesDurable();
        twentyFourBlocksByFlush();
        rotateBeginsAnew();
        crashOfSomeBytes();
        crashRefuses();
        bytesOfTheFile();
        damageOfTheFile();
        check.end();
    }

    private static EventLog withSites() {
        EventLog x = new EventLog();
        Check.site(x, "");
        Check.site(x, "{t}{t}{t}{t}{t}{t}");
        return x;
    }

    private static void longEvent(EventLog x, int writer, long time) {
        Check.log(x, writer, 1, time, LONG, LONG, LONG, LONG, LONG, LONG);
    }

    /** A block goes to the file without being durable; the writer's next one has one event. */
    private static void push(EventLog x, int writer, long time) {
        for (int k = 0; k < 3; k++) {
            longEvent(x, writer, time);
        }
    }

    /** A file of so many blocks, all durable, of writer 0. */
    private static EventLog withBlocks(int n) {
        EventLog x = withSites();
        for (int k = 0; k < n; k++) {
            x.log(0, 0, k);
            x.flush(0);
        }
        return x;
    }

    private static void writersAndSites() {
        check.sentence("log: NoSuchElementException: there is no such site, writer; WRITERS are 0 .. 3");
        int[] numbers = {Integer.MIN_VALUE, -256, -1, 0, 1, 2, 3, 4, 5, 39, 40, 256, Integer.MAX_VALUE};
        for (int writer : numbers) {
            for (int site : numbers) {
                EventLog x = new EventLog();
                Check.site(x, "");
                Check.site(x, "b");
                if (writer >= 0 && writer <= 3 && site >= 0 && site <= 1) {
                    check.same("log", x.log(writer, site, 0), 2);
                } else {
                    check.fails("log " + writer + " " + site, NoSuchElementException.class, () -> x.log(writer, site, 0));
                    noEventCame(x);
                }
            }
        }
    }

    private static void noEventCame(EventLog x) {
        for (int w = 0; w < 4; w++) {
            check.same("no event came", x.flush(w), 0);
        }
    }

    private static void cutByACrash() {
        check.sentence("IllegalStateException when the file was cut by a crash (also by one in which nothing was lost)");
        for (int n : new int[] {0, 1, 255, 256, Integer.MAX_VALUE}) {
            for (int blocks = 0; blocks <= 2; blocks++) {
                EventLog x = withBlocks(blocks);
                check.same("before it", x.log(1, 0, 0), 2);
                x.crash(n);
                for (int w = 0; w < 4; w++) {
                    int writer = w;
                    check.fails("log", IllegalStateException.class, () -> x.log(writer, 0, 100));
                    check.fails("flush", IllegalStateException.class, () -> x.flush(writer));
                }
                check.fails("crash", IllegalStateException.class, () -> x.crash(n));
                check.same("size", x.size(), 256 * blocks);
                x.rotate();
                check.same("a new file is not cut", x.log(1, 0, 0), 2);
                check.same("nor is it for flush", x.flush(1), 1);
                check.same("nor is it for crash", x.crash(0), 256);
            }
        }
        EventLog x = withSites();
        push(x, 0, 0);
        check.same("all is left", x.crash(256), 256);
        check.fails("and it is cut", IllegalStateException.class, () -> x.log(0, 0, 0));
        EventLog y = withSites();
        check.fails("a crash that is refused", IllegalArgumentException.class, () -> y.crash(-1));
        check.same("does not cut", y.log(0, 0, 0), 2);
    }

    private static void oneArgumentForEachSlot() {
        check.sentence("IllegalArgumentException when the arguments are not of the slots' kinds, one for each");
        for (int slots = 0; slots <= 6; slots++) {
            for (int arguments = 0; arguments <= 6; arguments++) {
                EventLog x = new EventLog();
                Check.site(x, "{d}".repeat(slots));
                for (int k = 0; k < arguments; k++) {
                    x.arg(0);
                }
                if (slots == arguments) {
                    check.same("log", x.log(0, 0, 0), 2 + slots);
                } else {
                    check.fails(arguments + " for " + slots, IllegalArgumentException.class, () -> x.log(0, 0, 0));
                    noEventCame(x);
                }
            }
        }
    }

    private static void theSlotsKinds() {
        check.sentence("the slots' kinds: for each slot a number, or a text for {t}");
        String[] kinds = {"{d}", "{u}", "{x}", "{f1}", "{f6}", "{e0}", "{e7}", "{t}"};
        for (String kind : kinds) {
            for (int slot = 0; slot < 6; slot++) {
                String format = "{d}".repeat(slot) + kind + "{d}".repeat(5 - slot);
                logsKinds(format, slot, kind.equals("{t}"), false);
                logsKinds(format, slot, kind.equals("{t}"), true);
            }
        }
    }

    private static void logsKinds(String format, int slot, boolean isText, boolean givesText) {
        EventLog x = new EventLog();
        Check.site(x, format);
        for (int k = 0; k < 6; k++) {
            if (k == slot && givesText) {
                Check.text(x, "");
            } else {
                x.arg(0);
            }
        }
        if (isText == givesText) {
            check.same("log of " + format, x.log(0, 0, 0), 8);
        } else {
            check.fails("log of " + format, IllegalArgumentException.class, () -> x.log(0, 0, 0));
            noEventCame(x);
        }
    }

    private static void theArgumentsAreEmptyThen() {
        check.sentence("An event of a writer, with the arguments, which are empty then (log() takes it)");
        EventLog x = withSites();
        Check.site(x, "{d}");
        x.arg(1);
        check.same("log", x.log(0, 2, 5), 3);
        isEmpty(x);
        check.fails("no writer", NoSuchElementException.class, () -> x.log(4, 2, 5));
        isEmpty(x);
        check.fails("no site", NoSuchElementException.class, () -> x.log(0, 3, 5));
        isEmpty(x);
        check.fails("time", IllegalArgumentException.class, () -> x.log(0, 2, 4));
        isEmpty(x);
        check.fails("kinds", IllegalArgumentException.class, () -> x.log(0, 0, 5));
        isEmpty(x);
        x.crash(0);
        check.fails("cut", IllegalStateException.class, () -> x.log(0, 2, 5));
        isEmpty(x);
        EventLog y = withBlocks(24);
        longEvent(y, 0, 100);
        longEvent(y, 0, 100);
        check.fails("no room", UnsupportedOperationException.class, () -> longEvent(y, 0, 100));
        isEmpty(y);
    }

    /** And leaves one argument there. */
    private static void isEmpty(EventLog x) {
        check.same("the first argument", x.arg(1), 1);
    }

    private static void timesNotBelowNought() {
        check.sentence("or time is below 0");
        long[] times = {0, 1, Integer.MAX_VALUE, 1L + Integer.MAX_VALUE, 1L << 32, Long.MAX_VALUE - 1, Long.MAX_VALUE};
        for (long time : times) {
            EventLog x = withSites();
            check.same("log at " + time, x.log(0, 0, time), 2);
            x.flush(0);
            x.open();
            check.same("its time", x.time(0), time);
            EventLog y = withSites();
            check.fails("log at " + (-1 - time), IllegalArgumentException.class, () -> y.log(0, 0, -1 - time));
            noEventCame(y);
        }
    }

    private static void timesNotBelowTheLast() {
        check.sentence("or time is below .. the writer's last event's");
        for (long last : new long[] {1, 2, 1L << 32, Long.MAX_VALUE}) {
            EventLog x = withSites();
            x.log(0, 0, last);
            check.fails("one less", IllegalArgumentException.class, () -> x.log(0, 0, last - 1));
            check.fails("0", IllegalArgumentException.class, () -> x.log(0, 0, 0));
            check.same("the same", x.log(0, 0, last), 4);
            check.same("another writer", x.log(1, 0, 0), 2);
            check.same("another writer's last does not count", x.log(0, 0, last), 6);
            check.fails("nor does it lower one's own", IllegalArgumentException.class, () -> x.log(0, 0, last - 1));
        }
        EventLog x = withSites();
        x.log(0, 0, 10);
        check.fails("refused", IllegalArgumentException.class, () -> Check.log(x, 0, 0, 20, 1));
        check.fails("refused", NoSuchElementException.class, () -> x.log(0, 9, 30));
        check.same("a refused event is none", x.log(0, 0, 10), 4);
        check.same("one more", x.log(0, 0, 11), 6);
        check.fails("one less", IllegalArgumentException.class, () -> x.log(0, 0, 10));
    }

    private static void theLastInThisFile() {
        check.sentence("the writer's last event's in this file");
        EventLog x = withSites();
        x.log(0, 0, 100);
        x.flush(0);
        check.fails("after a flush", IllegalArgumentException.class, () -> x.log(0, 0, 99));
        check.same("the same time", x.log(0, 0, 100), 2);
        push(x, 0, 200);
        check.same("two blocks", x.size(), 512);
        check.fails("after a block that was full", IllegalArgumentException.class, () -> x.log(0, 0, 199));
        x.open();
        check.fails("after open", IllegalArgumentException.class, () -> x.log(0, 0, 199));
        new Forgery(x, 0).putTime(7);
        check.fails("whatever becomes of the file's bytes", IllegalArgumentException.class, () -> x.log(0, 0, 199));
        x.rotate();
        check.same("in a new file", x.log(0, 0, 0), 2);
        check.fails("below 0 nevertheless", IllegalArgumentException.class, () -> x.log(0, 0, -1));
    }

    private static void howManyBytesItsBlockHas() {
        check.sentence("how many bytes of events its block has then");
        EventLog x = withSites();
        for (int k = 1; k <= 119; k++) {
            check.same("log", x.log(0, 0, 0), 2 * k);
        }
        check.same("in an empty one", x.log(0, 0, 0), 2);
        check.same("of another writer", x.log(1, 0, 0), 2);
        x.flush(0);
        check.same("after a flush", x.log(0, 0, 0), 2);
        check.same("of another writer after it", x.log(1, 0, 0), 4);
        x.rotate();
        check.same("after a rotate", x.log(1, 0, 0), 2);
    }

    private static void twentyFourBlocksByLog() {
        check.sentence("UnsupportedOperationException when its block must go to the file, which has 24");
        for (int blocks = 22; blocks <= 24; blocks++) {
            EventLog x = withBlocks(blocks);
            longEvent(x, 1, 100);
            longEvent(x, 1, 100);
            if (blocks < 24) {
                longEvent(x, 1, 100);
                check.same("it went", x.size(), 256 * (blocks + 1));
            } else {
                check.fails("no room", UnsupportedOperationException.class, () -> longEvent(x, 1, 200));
                check.same("it stayed", x.size(), 256 * 24);
                check.same("another time is not the last one", x.log(1, 0, 100), 210);
                check.same("an event that fits", x.log(1, 0, 101), 212);
                check.same("another writer's block has room", x.log(2, 0, 0), 2);
            }
        }
        EventLog x = withBlocks(24);
        for (int k = 1; k <= 119; k++) {
            check.same("a full file, and room in the block", x.log(3, 0, 0), 2 * k);
        }
        check.fails("and none", UnsupportedOperationException.class, () -> x.log(3, 0, 0));
        check.fails("and none again", UnsupportedOperationException.class, () -> x.log(3, 0, 0));
        x.rotate();
        check.same("a new file", x.log(3, 0, 0), 2);
    }

    private static void flushOfAnyWriter() {
        check.sentence("flush: NoSuchElementException: there is no such writer");
        for (int writer : new int[] {Integer.MIN_VALUE, -256, -1, 0, 1, 2, 3, 4, 5, 256, Integer.MAX_VALUE}) {
            EventLog x = withSites();
            for (int w = 0; w < 4; w++) {
                x.log(w, 0, w);
            }
            if (writer >= 0 && writer <= 3) {
                check.same("flush", x.flush(writer), 1);
                check.same("its block", x.byteOf(1), writer);
                check.same("its block is empty", x.log(writer, 0, 9), 2);
            } else {
                check.fails("flush " + writer, NoSuchElementException.class, () -> x.flush(writer));
                check.same("nothing went", x.size(), 0);
                check.same("the blocks stay", x.log(3, 0, 3), 4);
            }
        }
    }

    private static void flushOfABlockWithoutEvents() {
        check.sentence("A writer's block goes to the file, if it has events: how many blocks it has");
        EventLog x = withSites();
        for (int k = 0; k < 4; k++) {
            check.same("no events", x.flush(2), k);
            x.log(2, 0, 0);
            check.same("one event", x.flush(2), k + 1);
            check.same("none any more", x.flush(2), k + 1);
            check.same("of another writer", x.flush(1), k + 1);
            check.same("size", x.size(), 256 * k + 256);
        }
    }

    private static void flushMakesDurable() {
        check.sentence("and all that is in the file is durable");
        for (int writer = 0; writer < 4; writer++) {
            EventLog x = withSites();
            push(x, 0, 0);
            push(x, 1, 0);
            int blocks = x.flush(writer);
            check.same("blocks", blocks, writer < 2 ? 3 : 2);
            push(x, 2, 0);
            check.same("one more", x.size(), 256 * blocks + 256);
            check.same("crash", x.crash(0), 256 * blocks);
        }
        EventLog x = withSites();
        push(x, 0, 0);
        check.fails("a flush that is refused", NoSuchElementException.class, () -> x.flush(4));
        check.same("makes nothing durable", x.crash(0), 0);
    }

    private static void twentyFourBlocksByFlush() {
        check.sentence("flush: UnsupportedOperationException when there is no room; The file has 24 blocks at most");
        EventLog x = withBlocks(23);
        x.log(1, 0, 0);
        x.log(2, 0, 0);
        check.same("the 24th", x.flush(1), 24);
        check.fails("the 25th", UnsupportedOperationException.class, () -> x.flush(2));
        check.same("no events need no room", x.flush(1), 24);
        check.same("the block stays", x.log(2, 0, 0), 4);
        check.same("size", x.size(), 24 * 256);
        EventLog y = withBlocks(23);
        push(y, 1, 0);
        check.same("24 blocks", y.size(), 24 * 256);
        check.fails("the 25th", UnsupportedOperationException.class, () -> y.flush(1));
        check.same("the last one is not durable by that", y.crash(0), 23 * 256);
        EventLog z = withBlocks(23);
        push(z, 1, 0);
        check.same("no events need no room", z.flush(2), 24);
        check.same("and all is durable", z.crash(0), 24 * 256);
    }

    private static void rotateBeginsAnew() {
        check.sentence("A new file, which is empty (not cut; writers have had no event in it); what writers had in their blocks is gone");
        EventLog x = withBlocks(24);
        for (int w = 0; w < 4; w++) {
            x.log(w, 0, 1000);
        }
        x.rotate();
        check.same("size", x.size(), 0);
        noEventCame(x);
        for (int w = 0; w < 4; w++) {
            check.same("no event had", x.log(w, 0, 3 - w), 2);
            check.same("there is room", x.flush(w), w + 1);
            check.same("its first block", Check.file(x, 256 * w, 256 * w + 4), "90 " + w + " 0 0");
        }
        x.rotate();
        push(x, 0, 0);
        check.same("nothing is durable", x.crash(0), 0);
        x.rotate();
        x.rotate();
        check.same("not cut", x.flush(0), 0);
        check.sentence("rotate: THE LINES stay");
        EventLog y = withBlocks(3);
        y.damage(256, 0);
        y.open();
        y.rotate();
        check.same("lines", y.count(), 2);
        check.same("the last one's time", y.time(1), 2);
        check.same("broken", y.broken(), 1);
        check.same("open", y.open(), 0);
        check.same("no lines", y.count(), 0);
    }

    private static void crashOfSomeBytes() {
        check.sentence("of the file what is durable is left, and n bytes behind that, as far as there are any: how many bytes the file has");
        int[] numbers = {0, 1, 2, 255, 256, 257, 511, 512, 513, 6144, Integer.MAX_VALUE - 512, Integer.MAX_VALUE};
        for (int durable = 0; durable <= 2; durable++) {
            for (int more = 0; more <= 2; more++) {
                for (int n : numbers) {
                    EventLog x = withBlocks(durable);
                    for (int k = 0; k < more; k++) {
                        push(x, 1 + k, 0);
                    }
                    x.log(3, 0, 0);
                    int due = 256 * durable + Math.min(n, 256 * more);
                    check.same("crash " + n, x.crash(n), due);
                    check.same("size", x.size(), due);
                    if (due > 0) {
                        check.same("the first byte", x.byteOf(0), 90);
                    }
                    check.fails("no byte behind", IndexOutOfBoundsException.class, () -> x.byteOf(due));
                    x.open();
                    check.same("what is left at the end is broken", x.broken(), due % 256 == 0 ? 0 : 1);
                }
            }
        }
        check.sentence("A crash: what writers have in their blocks is gone");
        EventLog x = withBlocks(1);
        x.log(2, 0, 0);
        check.same("crash", x.crash(1000), 256);
        check.same("lines", x.open(), 1);
        x.rotate();
        noEventCame(x);
    }

    private static void crashRefuses() {
        check.sentence("crash: IllegalArgumentException when n is below 0; IllegalStateException as for log");
        for (int n : new int[] {-1, -2, -256, Integer.MIN_VALUE}) {
            EventLog x = withBlocks(1);
            push(x, 1, 0);
            check.fails("crash " + n, IllegalArgumentException.class, () -> x.crash(n));
            check.same("the file stays", x.size(), 512);
            check.same("the blocks stay", x.log(1, 0, 0), 106);
            check.same("what is durable stays", x.crash(0), 256);
            check.fails("crash " + n + " of a cut file", IllegalArgumentException.class, () -> x.crash(n));
            check.fails("a second crash", IllegalStateException.class, () -> x.crash(0));
            check.same("the file stays", x.size(), 256);
        }
    }

    private static void bytesOfTheFile() {
        check.sentence("size: how many bytes the file has; byteOf, damage: IndexOutOfBoundsException");
        for (int blocks : new int[] {0, 1, 2, 24}) {
            EventLog x = withBlocks(blocks);
            outside(x, 256 * blocks);
        }
        for (int n : new int[] {1, 100, 255}) {
            EventLog x = withBlocks(1);
            push(x, 1, 0);
            x.crash(n);
            outside(x, 256 + n);
            x.rotate();
            outside(x, 0);
        }
    }

    private static void outside(EventLog x, int size) {
        check.same("size", x.size(), size);
        for (int i : new int[] {Integer.MIN_VALUE, -256, -1, size, size + 1, size + 256, 6144, Integer.MAX_VALUE}) {
            check.fails("byteOf " + i, IndexOutOfBoundsException.class, () -> x.byteOf(i));
            check.fails("damage " + i, IndexOutOfBoundsException.class, () -> x.damage(i, 0));
        }
        if (size > 0) {
            int last = x.byteOf(size - 1);
            check.same("the first", x.byteOf(0), 90);
            x.damage(0, 1);
            x.damage(size - 1, 2);
            check.same("the first", x.byteOf(0), 1);
            check.same("the last", x.byteOf(size - 1), 2);
            x.damage(size - 1, last);
        }
    }

    private static void damageOfTheFile() {
        check.sentence("Byte i of the file becomes the lowest eight bits of b; byteOf: 0 .. 255");
        int[] numbers = {0, 1, 127, 128, 255, 256, 257, -1, -128, -129, -256, Integer.MIN_VALUE, Integer.MAX_VALUE};
        for (int b : numbers) {
            EventLog x = withBlocks(1);
            String before = Check.file(x, 0, 9) + "|" + Check.file(x, 10, 30);
            x.damage(9, b);
            check.same("damage by " + b, x.byteOf(9), Math.floorMod(b, 256));
            check.same("all else stays", Check.file(x, 0, 9) + "|" + Check.file(x, 10, 30), before);
        }
        for (int half = 0; half < 256; half += 128) {
            EventLog x = withBlocks(1);
            for (int b = half; b < half + 128; b++) {
                x.damage(200, b);
                check.same("byte " + b, x.byteOf(200), b);
            }
        }
    }
}
