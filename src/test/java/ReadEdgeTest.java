import java.util.NoSuchElementException;

/** The boundary cases of READING the file and of THE LINES' order: promises 14 to 16. */
public final class ReadEdgeTest {
    private static final Check check = new Check("ReadEdgeTest");
    private static final int[] MOST = {255, 255, 255, 255, 255, 255, 255, 255, 127};

    public static void main(String[] args) {
        whatIsLeftAtTheEnd();
        whateverItsBytesAre();
        theFirstByte();
        theWriter();
        theTimeOfTheBlock();
        howManyBytes();
        theSum();
        whatIsNotLookedAt();
        bytesThatAreNotEvents();
        sitesThatThereAre();
        timesThatWrapAround();
        numbersByTheirFirstByte();
        numbersThatWrapAround();
        lastNumbersOfABlock();
        textsOfSixteenBytes();
        varsOfNineBytes();
        varsAsFewAsCanBe();
        itsEventsAreLeftOut();
        blocksAreBrokenEachByItself();
        theOrderOfTheLines();
        theLinesUntilTheNextOpen();
        howManyWereBroken();
        theTimeOfALine();
        check.end();
    }

    /** Sites 0: no slot, 1: {d}, 2: {t}; one block of writer 1 with an event of the time 1000. */
    private static EventLog oneBlock() {
        EventLog x = new EventLog();
        Check.site(x, "");
        Check.site(x, "{d}");
        Check.site(x, "{t}");
        x.log(1, 0, 1000);
        x.flush(1);
        return x;
    }

    private static void reads(String what, EventLog x, int lines, int broken) {
        check.same("lines: " + what, x.open(), lines);
        check.same("broken: " + what, x.broken(), broken);
        check.fails("no line behind: " + what, NoSuchElementException.class, () -> x.time(lines));
    }

    /** One block is whole, and gives so many lines; or it is broken. */
    private static void readsOne(String what, EventLog x, boolean isWhole, int lines) {
        reads(what, x, isWhole ? lines : 0, isWhole ? 0 : 1);
    }

    private static EventLog withEvents(int... events) {
        EventLog x = oneBlock();
        new Forgery(x, 0).putEvents(events);
        return x;
    }

    private static String told(int[] bytes) {
        StringBuilder s = new StringBuilder();
        for (int b : bytes) {
            s.append(b).append(' ');
        }
        return s.toString();
    }

    private static void events(boolean isWhole, int lines, int... events) {
        readsOne(told(events), withEvents(events), isWhole, lines);
    }

    private static int[] joined(int[]... parts) {
        int n = 0;
        for (int[] p : parts) {
            n += p.length;
        }
        int[] all = new int[n];
        int at = 0;
        for (int[] p : parts) {
            System.arraycopy(p, 0, all, at, p.length);
            at += p.length;
        }
        return all;
    }

    private static int[] repeated(int n, int... part) {
        int[] all = new int[n * part.length];
        for (int k = 0; k < all.length; k++) {
            all[k] = part[k % part.length];
        }
        return all;
    }

    private static void whatIsLeftAtTheEnd() {
        check.sentence("what is left at the end (less than 256) is BROKEN");
        for (int n = 0; n <= 512; n++) {
            if (n < 3 || n > 253 && n < 259 || n > 509 || n % 50 == 0) {
                EventLog x = new EventLog();
                Check.site(x, "");
                for (int k = 0; k < 239; k++) {
                    x.log(3, 0, k);
                }
                check.same("two blocks", x.size(), 512);
                x.crash(n);
                reads("of " + n + " bytes", x, 119 * (n / 256), n % 256 == 0 ? 0 : 1);
            }
        }
    }

    /** All bytes of a whole block but the last one, which is 0. */
    private static void whateverItsBytesAre() {
        check.sentence("what is left at the end (less than 256) is BROKEN: whatever its bytes are");
        EventLog x = new EventLog();
        Check.site(x, "{t}{t}{t}{t}{t}{t}");
        String s = "sixteen bytes ..";
        for (int k = 0; k < 3; k++) {
            Check.log(x, 0, 0, 0, s, s, s, s, s, s);
        }
        Forgery block = new Forgery(x, 0);
        block.put(251, -block.sum());
        check.same("the last byte", x.byteOf(255), 0);
        reads("the block", x, 2, 0);
        check.same("crash", x.crash(255), 255);
        reads("all but its last byte", x, 0, 1);
    }

    private static void theFirstByte() {
        check.sentence("a block whose first byte is not 90");
        for (int b = 0; b < 256; b++) {
            EventLog x = oneBlock();
            new Forgery(x, 0).put(0, b);
            readsOne("first byte " + b, x, b == 90, 1);
        }
    }

    private static void theWriter() {
        check.sentence("whose writer is not 0 .. 3");
        for (int b = 0; b < 256; b++) {
            EventLog x = oneBlock();
            new Forgery(x, 0).put(1, b);
            readsOne("writer " + b, x, b <= 3, 1);
            if (b <= 3) {
                check.same("the line's writer", x.about(0, -2), b);
            }
        }
    }

    private static void theTimeOfTheBlock() {
        check.sentence("whose time is below 0");
        for (int b = 0; b < 256; b++) {
            EventLog x = oneBlock();
            new Forgery(x, 0).put(4, b);
            readsOne("highest byte of its time " + b, x, b < 128, 1);
        }
        for (long time : new long[] {0, 1, Long.MAX_VALUE, -1, Long.MIN_VALUE, Long.MIN_VALUE + 1000}) {
            EventLog x = oneBlock();
            new Forgery(x, 0).putTime(time);
            readsOne("time " + time, x, time >= 0, 1);
            EventLog y = oneBlock();
            new Forgery(y, 0).putTime(time).putEvents();
            readsOne("time " + time + ", and no event", y, time >= 0, 0);
            EventLog z = oneBlock();
            new Forgery(z, 0).putTime(time).putEvents(joined(new int[] {0}, MOST));
            readsOne("time " + time + " and the highest VAR", z, time == 0, 1);
        }
    }

    private static void howManyBytes() {
        check.sentence("whose n is above 238");
        for (int n = 0; n < 256; n++) {
            EventLog x = oneBlock();
            new Forgery(x, 0).put(13, n);
            boolean isWhole = n <= 238 && n % 2 == 0;
            readsOne("n is " + n, x, isWhole, n / 2);
        }
        for (int high : new int[] {1, 2, 127, 128, 255}) {
            for (int low : new int[] {0, 2, 238, 255}) {
                EventLog x = oneBlock();
                new Forgery(x, 0).put(12, high).put(13, low);
                readsOne("n is " + (256 * high + low), x, false, 0);
            }
        }
    }

    private static void theSum() {
        check.sentence("whose sum is another one");
        for (int i = 252; i < 256; i++) {
            for (int d : new int[] {1, 128, 255}) {
                EventLog x = oneBlock();
                int b = x.byteOf(i);
                x.damage(i, b + d);
                readsOne("byte " + i + " of the sum", x, false, 0);
                x.damage(i, b);
                readsOne("the sum is right again", x, true, 1);
            }
        }
        for (int i = 0; i < 252; i++) {
            EventLog x = oneBlock();
            x.damage(i, x.byteOf(i) ^ 1);
            readsOne("byte " + i + " is another one", x, false, 0);
        }
        EventLog x = oneBlock();
        x.damage(250, 1);
        x.damage(251, 256 - 31);
        readsOne("bytes by which the sum is 256 higher", x, false, 0);
        x.damage(254, x.byteOf(254) + 1);
        readsOne("and the sum is 256 higher", x, x.byteOf(254) != 0, 1);
    }

    private static void whatIsNotLookedAt() {
        check.sentence("BROKEN is what the document names: which block of its writer it is, and what stands behind its events, is not among it");
        for (int b : new int[] {1, 128, 255}) {
            for (int place : new int[] {2, 3, 16, 17, 250, 251}) {
                EventLog x = oneBlock();
                new Forgery(x, 0).put(place, b);
                readsOne("byte " + place + " is " + b, x, true, 1);
            }
        }
    }

    private static void bytesThatAreNotEvents() {
        check.sentence("whose n bytes are not events, one behind the other");
        events(true, 0);
        int[] whole = {0, 5, 1, 3, 69, 1, 0, 255, 1, 2, 3, 4, 2, 0, 3, 7, 8, 9, 2, 128, 1, 0, 0, 0};
        int[] ends = {0, 2, 5, 12, 18, 22, 24};
        for (int n = 0; n <= whole.length; n++) {
            int[] part = new int[n];
            System.arraycopy(whole, 0, part, 0, n);
            int lines = -1;
            for (int k = 0; k < ends.length; k++) {
                lines = ends[k] == n ? k : lines;
            }
            events(lines >= 0, lines, part);
        }
        events(true, 119, repeated(119, 0, 0));
        events(false, 0, joined(repeated(118, 0, 0), new int[] {0}));
        events(true, 118, joined(repeated(117, 0, 0), new int[] {0, 128, 1}));
        events(false, 0, joined(repeated(118, 0, 0), new int[] {0, 128}));
        events(false, 0, joined(repeated(118, 0, 0), new int[] {1, 0}));
        events(false, 0, joined(repeated(118, 0, 0), new int[] {2, 0}));
        events(true, 118, joined(repeated(117, 0, 0), new int[] {2, 0, 0}));
        events(true, 116, joined(repeated(115, 0, 0), new int[] {1, 0, 255, 0, 0, 0, 9}));
        events(false, 0, joined(repeated(116, 0, 0), new int[] {1, 0, 255, 0, 0, 9}));
    }

    private static void sitesThatThereAre() {
        check.sentence("of sites that there are");
        for (int site = 0; site < 128; site++) {
            events(site == 0, 1, site, 0);
            EventLog x = new EventLog();
            for (int k = 0; k < 40; k++) {
                Check.site(x, "s" + k);
            }
            x.log(1, 0, 0);
            x.flush(1);
            new Forgery(x, 0).putEvents(site, 0);
            readsOne("site " + site + " of 40", x, site < 40, 1);
        }
        events(false, 0, 128, 1, 0);
        events(false, 0, 128, 128, 128, 128, 16, 0);
        events(false, 0, 128, 128, 128, 128, 128, 128, 128, 128, 1, 0);
        events(false, 0, joined(MOST, new int[] {0}));
        EventLog x = oneBlock();
        new Forgery(x, 0).putEvents(3, 0);
        readsOne("no site 3 yet", x, false, 0);
        Check.site(x, "{d");
        readsOne("a fault is no site", x, false, 0);
        Check.site(x, "three");
        check.same("it was read without it", x.broken(), 1);
        readsOne("there is a site 3", x, true, 1);
    }

    private static void timesThatWrapAround() {
        check.sentence("with times (that of the block, or of the event before, and the VAR) that are no less than 0 (as longs)");
        timed(Long.MAX_VALUE, true, 0, 0);
        timed(Long.MAX_VALUE, false, 0, 1);
        timed(Long.MAX_VALUE - 1, true, 0, 1);
        timed(Long.MAX_VALUE - 1, false, 0, 2);
        timed(Long.MAX_VALUE - 127, true, 0, 127);
        timed(Long.MAX_VALUE - 127, false, 0, 128, 1);
        timed(0, true, joined(new int[] {0}, MOST));
        timed(1, false, joined(new int[] {0}, MOST));
        timed(Long.MAX_VALUE, false, joined(new int[] {0}, MOST));
        timed(Long.MAX_VALUE, true, 0, 0, 0, 0);
        timed(Long.MAX_VALUE, false, 0, 0, 0, 1);
        timed(Long.MAX_VALUE - 2, true, 0, 1, 0, 1);
        timed(Long.MAX_VALUE - 2, false, 0, 1, 0, 2);
        timed(0, true, joined(new int[] {0}, MOST, new int[] {0, 0}));
        timed(0, false, joined(new int[] {0}, MOST, new int[] {0, 1}));
        timed(0, false, joined(new int[] {0}, MOST, new int[] {0}, MOST));
        timed(0, true, joined(new int[] {0, 0, 0}, MOST));
        EventLog x = oneBlock();
        new Forgery(x, 0).putTime(5).putEvents(0, 3, 0, 0, 0, 130, 1);
        x.open();
        check.same("the block's time and the VAR", x.time(0), 8);
        check.same("the event before and the VAR", x.time(1), 8);
        check.same("the event before and the VAR", x.time(2), 138);
    }

    private static void timed(long time, boolean isWhole, int... events) {
        EventLog x = oneBlock();
        new Forgery(x, 0).putTime(time).putEvents(events);
        x.open();
        check.same("broken of " + time + ": " + told(events), x.broken(), isWhole ? 0 : 1);
        check.same("there is a line", x.find(0), isWhole ? 0 : -1);
    }

    private static void numbersByTheirFirstByte() {
        check.sentence("numbers packed by 0, 4 .. 124 but 64, or 255");
        for (int b = 0; b < 256; b++) {
            boolean isOne = b == 0 || b >= 4 && b <= 124 && b != 64;
            EventLog x = withEvents(1, 0, b);
            readsOne("a number by " + b, x, isOne, 1);
            if (isOne) {
                check.same("the number by " + b, x.about(0, 0), b == 0 ? 0 : b - 64);
            }
            EventLog y = withEvents(1, 0, b, 0, 0, 0, 0);
            readsOne("by " + b + " and four bytes", y, isOne || b == 255, b == 255 ? 1 : 3);
            EventLog z = withEvents(1, 0, 255, 0, 0, 1, 0, 1, 0, b);
            readsOne("by " + b + " behind a number", z, isOne, 2);
            if (isOne) {
                check.same("the number by " + b + " behind another", z.about(1, 0), b == 0 ? 256 : 256 + b - 64);
            }
        }
        check.sentence("255 and the four bytes of x");
        int[][] rows = {{0, 0, 0, 0, 0}, {0, 0, 0, 60, 60}, {255, 255, 255, 255, -1}, {127, 255, 255, 255, Integer.MAX_VALUE},
            {128, 0, 0, 0, Integer.MIN_VALUE}, {1, 2, 3, 4, 0x01020304}};
        for (int[] r : rows) {
            EventLog x = withEvents(1, 0, 255, r[0], r[1], r[2], r[3]);
            readsOne("a number by itself", x, true, 1);
            check.same("the number", x.about(0, 0), r[4]);
        }
        for (int n = 0; n < 4; n++) {
            events(false, 0, joined(new int[] {1, 0, 255}, repeated(n, 0)));
        }
    }

    private static void numbersThatWrapAround() {
        check.sentence("x - last as an int that wraps around: so does a number that is read");
        int[][] rows = {{127, 255, 255, 255, 65, Integer.MIN_VALUE}, {127, 255, 255, 255, 124, Integer.MIN_VALUE + 59},
            {128, 0, 0, 0, 63, Integer.MAX_VALUE}, {128, 0, 0, 0, 4, Integer.MAX_VALUE - 59}, {255, 255, 255, 255, 65, 0}};
        for (int[] r : rows) {
            EventLog x = withEvents(1, 0, 255, r[0], r[1], r[2], r[3], 1, 0, r[4]);
            readsOne("two numbers", x, true, 2);
            check.same("the second", x.about(1, 0), r[5]);
        }
    }

    private static void lastNumbersOfABlock() {
        check.sentence("last: in the event of the same site before it in the block, when it is read too");
        EventLog x = oneBlock();
        Check.site(x, "{t}{d}{d}");
        x.log(1, 0, 1000);
        x.flush(1);
        new Forgery(x, 0).putEvents(1, 0, 255, 0, 0, 1, 0, 3, 0, 1, 9, 255, 0, 0, 2, 0, 70, 1, 0, 65, 3, 0, 0, 0, 65);
        new Forgery(x, 1).putEvents(1, 1, 66, 3, 1, 0, 0, 60);
        reads("two blocks", x, 6, 0);
        check.same("site 1, first", x.about(0, 0), 256);
        check.same("site 3, first, slot 1", x.about(1, 1), 512);
        check.same("site 3, first, slot 2", x.about(1, 2), 6);
        check.same("site 1, second", x.about(2, 0), 257);
        check.same("site 3, second, slot 1", x.about(3, 1), 512);
        check.same("site 3, second, slot 2", x.about(3, 2), 7);
        check.same("site 1 in the next block", x.about(4, 0), 2);
        check.same("site 3 in the next block, slot 1", x.about(5, 1), 0);
        check.same("site 3 in the next block, slot 2", x.about(5, 2), -4);
    }

    private static void textsOfSixteenBytes() {
        check.sentence("texts of at most 16 bytes");
        for (int n = 0; n < 256; n++) {
            int[] bytes = repeated(Math.min(n, 230), 65);
            EventLog x = withEvents(joined(new int[] {2, 0, n}, bytes));
            readsOne("a text of " + n, x, n <= 16, 1);
            if (n <= 16) {
                check.same("its size", x.about(0, 0), n);
                check.same("its bytes", Check.line(x, 0), "A".repeat(n));
            }
            events(n == 0, 1, 2, 0, n);
            if (n > 0 && n <= 16) {
                events(false, 0, joined(new int[] {2, 0, n}, repeated(n - 1, 65)));
            }
        }
        EventLog x = withEvents(joined(repeated(110, 0, 0), new int[] {2, 0, 15}, repeated(15, 255)));
        readsOne("a text up to the 238th byte", x, true, 111);
        events(false, 0, joined(repeated(110, 0, 0), new int[] {2, 0, 16}, repeated(15, 255)));
    }

    private static void varsOfNineBytes() {
        check.sentence("VARs of at most nine bytes");
        for (int n = 1; n <= 12; n++) {
            int[] var = joined(repeated(n - 1, 128), new int[] {1});
            EventLog x = oneBlock();
            new Forgery(x, 0).putTime(0).putEvents(joined(new int[] {0}, var));
            readsOne("a time's VAR of " + n, x, n <= 9, 1);
            if (n <= 9) {
                check.same("its time", x.time(0), 1L << 7 * (n - 1));
            }
            int[] most = joined(repeated(n - 1, 255), new int[] {127});
            EventLog y = oneBlock();
            new Forgery(y, 0).putTime(0).putEvents(joined(new int[] {0}, most));
            readsOne("a time's highest VAR of " + n, y, n <= 9, 1);
            if (n <= 9) {
                check.same("its time", y.time(0), n == 9 ? Long.MAX_VALUE : (1L << 7 * n) - 1);
            }
            events(n == 1, 1, joined(var, new int[] {0, 0}));
            events(false, 0, joined(new int[] {0}, repeated(n, 128)));
        }
        for (int b : new int[] {0, 1, 2, 64, 126, 127}) {
            events(false, 0, joined(new int[] {0}, repeated(9, 128), new int[] {b}));
            events(false, 0, joined(new int[] {0}, repeated(10, 128), new int[] {b}));
            events(false, 0, joined(repeated(9, 128), new int[] {b, 0}));
        }
    }

    private static void varsAsFewAsCanBe() {
        check.sentence("(the last of them not 0 but for a VAR of one byte)");
        for (int n = 1; n <= 10; n++) {
            for (int b : new int[] {128, 129, 255}) {
                events(n == 1, 1, joined(new int[] {0}, repeated(n - 1, b), new int[] {0}));
                events(n == 1, 1, joined(repeated(n - 1, b), new int[] {0, 0}));
            }
        }
        events(true, 1, 0, 128, 1);
        events(false, 0, 0, 129, 0);
    }

    private static void itsEventsAreLeftOut() {
        check.sentence("Its events are left out then");
        int[][] wrong = {{3, 0}, {0}, {0, 128}, {0, 128, 0}, {1, 0, 64}, {1, 0, 1}, {1, 0, 125}, {1, 0, 254}, {1, 0, 255, 0}, {2, 0, 17}, {2, 0, 1}};
        for (int[] w : wrong) {
            EventLog x = oneBlock();
            x.log(2, 0, 7);
            x.flush(2);
            new Forgery(x, 0).putEvents(joined(new int[] {0, 0, 1, 0, 69, 2, 0, 1, 65}, w));
            reads("whole events before " + told(w), x, 1, 1);
            check.same("the other block's", x.time(0), 7);
            new Forgery(x, 0).putEvents(0, 0, 1, 0, 69, 2, 0, 1, 65);
            reads("without it", x, 4, 0);
        }
    }

    private static void blocksAreBrokenEachByItself() {
        check.sentence("READING the file: 256 bytes and 256 bytes");
        for (int which = 0; which < 16; which++) {
            EventLog x = new EventLog();
            Check.site(x, "");
            for (int k = 0; k < 4; k++) {
                x.log(k, 0, k);
                x.flush(k);
            }
            StringBuilder due = new StringBuilder();
            for (int k = 0; k < 4; k++) {
                if ((which >> k & 1) != 0) {
                    x.damage(256 * k + 20 * k, 77);
                } else {
                    due.append(k);
                }
            }
            reads("blocks " + which, x, due.length(), 4 - due.length());
            StringBuilder got = new StringBuilder();
            for (int k = 0; k < due.length(); k++) {
                got.append(x.about(k, -2));
            }
            check.same("whole ones", got.toString(), due.toString());
        }
    }

    private static String order(EventLog x, int n) {
        StringBuilder s = new StringBuilder();
        for (int k = 0; k < n; k++) {
            s.append(k == 0 ? "" : " ").append(x.about(k, 0));
        }
        return s.toString();
    }

    /** Blocks of one event each, of these writers and times, with their place as a number. */
    private static EventLog blocks(int[][] rows) {
        EventLog x = oneBlock();
        x.rotate();
        for (int k = 0; k < rows.length; k++) {
            Check.log(x, 0, 1, 0, k);
            x.flush(0);
            new Forgery(x, k).put(1, rows[k][0]).put(11, rows[k][1]);
        }
        return x;
    }

    private static void ordered(String due, int[]... rows) {
        EventLog x = blocks(rows);
        check.same("open", x.open(), rows.length);
        check.same("order", order(x, rows.length), due);
    }

    private static void theOrderOfTheLines() {
        check.sentence("THE LINES are all others: by time");
        ordered("0 1 2", new int[] {0, 1}, new int[] {0, 2}, new int[] {0, 3});
        ordered("2 1 0", new int[] {0, 3}, new int[] {0, 2}, new int[] {0, 1});
        ordered("1 0", new int[] {0, 3}, new int[] {3, 2});
        ordered("1 0", new int[] {0, 255}, new int[] {0, 127});
        EventLog x = oneBlock();
        x.rotate();
        long[] times = {Long.MAX_VALUE, 1L << 32, (1L << 31) - 1, 1L << 31, 0};
        for (int k = 0; k < 5; k++) {
            Check.log(x, 0, 1, Long.MAX_VALUE, k);
            x.flush(0);
            new Forgery(x, k).putTime(times[k]);
        }
        check.same("open", x.open(), 5);
        check.same("times of all sizes", order(x, 5), "4 2 3 1 0");
        check.sentence("THE LINES: then by writer");
        ordered("3 2 1 0", new int[] {3, 7}, new int[] {2, 7}, new int[] {1, 7}, new int[] {0, 7});
        ordered("1 0 2", new int[] {3, 7}, new int[] {0, 7}, new int[] {0, 8});
        check.sentence("THE LINES: then by where they are in the file");
        ordered("0 1 2 3 4", new int[] {2, 7}, new int[] {2, 7}, new int[] {2, 7}, new int[] {2, 7}, new int[] {2, 7});
        ordered("1 3 0 2 4", new int[] {2, 7}, new int[] {1, 7}, new int[] {2, 7}, new int[] {1, 7}, new int[] {2, 7});
        EventLog y = oneBlock();
        y.rotate();
        for (int k = 0; k < 6; k++) {
            Check.log(y, 1, 1, k < 4 ? 5 : 6, k);
            if (k % 2 == 1) {
                y.flush(1);
            }
        }
        check.same("open", y.open(), 6);
        check.same("in a block and behind it", order(y, 6), "0 1 2 3 4 5");
    }

    private static void theLinesUntilTheNextOpen() {
        check.sentence("gives THE LINES, as they are until the next open(), whatever becomes of the file: how many");
        for (int fate = 0; fate < 7; fate++) {
            EventLog x = oneBlock();
            Check.log(x, 1, 1, 1001, 5);
            x.flush(1);
            check.same("open", x.open(), 2);
            befall(x, fate);
            check.same("lines after " + fate, x.count(), 2);
            check.same("time", x.time(1), 1001);
            check.same("number", x.about(1, 0), 5);
            check.same("text", Check.line(x, 1), "5");
            check.same("broken", x.broken(), 0);
        }
        check.same("not what is in a block", logged().open(), 0);
        EventLog x = logged();
        x.flush(0);
        check.same("not before open", x.count(), 0);
        check.same("what is in the file", x.open(), 1);
        check.same("once more", x.open(), 1);
        x.rotate();
        check.same("an empty file", x.open(), 0);
    }

    private static EventLog logged() {
        EventLog x = new EventLog();
        Check.site(x, "");
        x.log(0, 0, 0);
        return x;
    }

    private static void befall(EventLog x, int fate) {
        switch (fate) {
            case 0 -> x.damage(0, 0);
            case 1 -> new Forgery(x, 1).putEvents(1, 0, 80);
            case 2 -> x.crash(0);
            case 3 -> x.rotate();
            case 4 -> {
                x.log(0, 0, 0);
                x.flush(0);
            }
            case 5 -> {
                x.rotate();
                Check.log(x, 1, 1, 7, 9);
                x.flush(1);
            }
            default -> Check.site(x, "another");
        }
    }

    private static void howManyWereBroken() {
        check.sentence("broken: how many blocks, and what was left at the end, were broken when it was read");
        EventLog x = new EventLog();
        Check.site(x, "");
        for (int k = 0; k < 23; k++) {
            x.log(0, 0, k);
            x.flush(0);
        }
        for (int k = 0; k < 120; k++) {
            x.log(1, 0, 0);
        }
        check.same("24 blocks", x.size(), 24 * 256);
        reads("none is broken", x, 142, 0);
        for (int k = 0; k < 23; k++) {
            x.damage(256 * k, 0);
            check.same("as it was when it was read", x.broken(), k);
            reads("so many are broken", x, 141 - k, k + 1);
        }
        x.crash(255);
        check.same("as it was when it was read", x.broken(), 23);
        reads("and what was left at the end", x, 0, 24);
        x.rotate();
        check.same("as it was when it was read", x.broken(), 24);
        reads("of an empty file", x, 0, 0);
    }

    private static void theTimeOfALine() {
        check.sentence("The time of a line. NoSuchElementException");
        for (int lines = 0; lines <= 3; lines++) {
            EventLog x = new EventLog();
            Check.site(x, "");
            for (int k = 0; k < lines; k++) {
                x.log(0, 0, 10 + k);
            }
            x.flush(0);
            check.fails("before open", NoSuchElementException.class, () -> x.time(0));
            x.open();
            for (int line : new int[] {Integer.MIN_VALUE, -1, 0, 1, 2, 3, 4, Integer.MAX_VALUE}) {
                if (line >= 0 && line < lines) {
                    check.same("time " + line, x.time(line), 10 + line);
                } else {
                    check.fails("time " + line, NoSuchElementException.class, () -> x.time(line));
                }
            }
        }
    }
}
