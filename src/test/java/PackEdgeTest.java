import java.math.BigInteger;
import java.util.NoSuchElementException;

/** The boundary cases of packing and of blocks: what "Terms" says of EVENTs, VARs, numbers and BLOCKs. */
public final class PackEdgeTest {
    private static final Check check = new Check("PackEdgeTest");
    private static final int[] NUMBERS = {
        0, 1, -1, 60, -60, 61, -61, 1000, Integer.MAX_VALUE, Integer.MAX_VALUE - 59, Integer.MIN_VALUE, Integer.MIN_VALUE + 59};
    private static final int[] STEPS = {
        0, 1, -1, 59, -59, 60, -60, 61, -61, 62, -62, 63, 64, -64, 127, 128, 191, 255, 256, 1 << 16, 1 << 24, Integer.MAX_VALUE,
        Integer.MIN_VALUE, -Integer.MAX_VALUE};

    public static void main(String[] args) {
        sitesAsVars();
        timesAsVars();
        theFirstTimeIsNought();
        numbersByTheirDifference();
        theFirstNumberOfASite();
        theEventOfTheSameSiteBefore();
        textsBySizeAndBytes();
        theHeadOfABlock();
        whichBlockOfItsWriter();
        twoHundredAndThirtyEightBytes();
        theLargestEvent();
        zerosBehindTheEvents();
        theSum();
        anEventThatDoesNotFit();
        check.end();
    }

    /** The bytes of a VAR, told once more by its words: seven bits at a time, the lowest first. */
    private static String var(BigInteger x) {
        BigInteger[] parts = x.divideAndRemainder(BigInteger.valueOf(128));
        if (parts[0].signum() == 0) {
            return "" + parts[1];
        }
        return parts[1].intValue() + 128 + " " + var(parts[0]);
    }

    private static void sitesAsVars() {
        check.sentence("PACKED it is: the site as a VAR");
        EventLog x = new EventLog();
        for (int k = 0; k < 40; k++) {
            Check.site(x, "s" + k);
        }
        StringBuilder due = new StringBuilder();
        for (int k = 0; k < 40; k++) {
            check.same("site " + k, x.log(0, k, 0), 2 * k + 2);
            due.append(k == 0 ? "" : " ").append(k).append(" 0");
        }
        check.same("sites", Check.flushed(x, 0), due.toString());
    }

    private static void step(BigInteger d) {
        EventLog x = new EventLog();
        Check.site(x, "");
        x.log(0, 0, 0);
        String bytes = var(d);
        check.same("log at " + d, x.log(0, 0, d.longValueExact()), 3 + bytes.split(" ").length);
        check.same("a VAR of " + d, Check.flushed(x, 0), "0 0 0 " + bytes);
        check.same("open", x.open(), 2);
        check.same("its time", x.time(1), d.longValueExact());
        long high = Long.MAX_VALUE - d.longValueExact();
        x.rotate();
        x.log(1, 0, high);
        x.log(1, 0, Long.MAX_VALUE);
        check.same("a VAR up to the last time", Check.flushed(x, 1), "0 0 0 " + bytes);
        check.same("open", x.open(), 2);
        check.same("the first time", x.time(0), high);
        check.same("the last time", x.time(1), Long.MAX_VALUE);
    }

    private static void timesAsVars() {
        check.sentence("A VAR is a number not below 0, seven bits at a time, the lowest first, 128 more in all but the last byte");
        for (int bits = 0; bits <= 63; bits++) {
            BigInteger power = BigInteger.ONE.shiftLeft(bits);
            for (int more = -2; more <= 1; more++) {
                BigInteger d = power.add(BigInteger.valueOf(more));
                if (d.signum() >= 0 && d.bitLength() <= 63) {
                    step(d);
                }
            }
        }
        check.sentence("A VAR is .. as few as can be");
        for (int bytes = 1; bytes <= 9; bytes++) {
            BigInteger most = BigInteger.ONE.shiftLeft(7 * bytes).subtract(BigInteger.ONE);
            check.same("bytes", var(most).split(" ").length, bytes);
            step(most);
        }
    }

    private static void theFirstTimeIsNought() {
        check.sentence("its time less that of the event before it in the block as a VAR (of a block's first event that is 0)");
        for (long time : new long[] {0, 1, 127, 128, 1L << 40, Long.MAX_VALUE}) {
            EventLog x = new EventLog();
            Check.site(x, "");
            check.same("the first", x.log(2, 0, time), 2);
            check.same("the second, of the same time", x.log(2, 0, time), 4);
            check.same("packed", Check.flushed(x, 2), "0 0 0 0");
            check.same("the next block's first", x.log(2, 0, Long.MAX_VALUE), 2);
            check.same("packed", Check.flushed(x, 2), "0 0");
            check.same("its block's time", Check.file(x, 256 + 4, 256 + 12), "127 255 255 255 255 255 255 255");
        }
        EventLog x = new EventLog();
        Check.site(x, "");
        x.log(0, 0, 1000);
        x.log(1, 0, 5);
        check.same("another writer's time", x.log(0, 0, 1001), 4);
        check.same("packed", Check.flushed(x, 0), "0 0 0 1");
    }

    private static String number(int last, int x) {
        BigInteger step = BigInteger.valueOf(x).subtract(BigInteger.valueOf(last));
        int wrapped = step.intValue();
        if (wrapped == 0) {
            return "0";
        }
        if (Math.abs((long) wrapped) <= 60) {
            return "" + (64 + wrapped);
        }
        return "255 " + (x >>> 24) + " " + (x >>> 16 & 255) + " " + (x >>> 8 & 255) + " " + (x & 255);
    }

    private static void numbersByTheirDifference() {
        check.sentence("x - last as an int that wraps around: 0 if that is 0; 64 and that, if it is -60 .. 60; otherwise 255 and the four bytes of x");
        for (int last : NUMBERS) {
            for (int step : STEPS) {
                EventLog x = new EventLog();
                Check.site(x, "{d}");
                Check.log(x, 0, 0, 0, last);
                Check.log(x, 0, 0, 0, last + step);
                String due = "0 0 " + number(0, last) + " 0 0 " + number(last, last + step);
                check.same(last + " and " + step, Check.flushed(x, 0), due);
                x.open();
                check.same("the first", x.about(0, 0), last);
                check.same("the second", x.about(1, 0), last + step);
            }
        }
    }

    private static void theFirstNumberOfASite() {
        check.sentence("last being that slot's number in the event of the same site before it in the block (0 if there is none)");
        String[] kinds = {"{d}", "{u}", "{x}", "{f1}", "{f6}", "{e0}", "{e7}"};
        for (String kind : kinds) {
            for (int n : NUMBERS) {
                EventLog x = new EventLog();
                Check.site(x, kind);
                Check.log(x, 3, 0, 0, n);
                check.same(kind + " of " + n, Check.flushed(x, 3), "0 0 " + number(0, n));
                Check.log(x, 3, 0, 0, n);
                check.same("the next block's " + n, Check.flushed(x, 3), "0 0 " + number(0, n));
            }
        }
    }

    private static void theEventOfTheSameSiteBefore() {
        check.sentence("last: that slot's, of the same site, in the block");
        EventLog x = new EventLog();
        Check.site(x, "{d}{t}{d}");
        Check.site(x, "{d}{u}{d}");
        Check.log(x, 0, 0, 0, 500, "ab", 600);
        Check.log(x, 0, 1, 0, 700, 800, 900);
        Check.log(x, 1, 0, 0, 1, "", 2);
        Check.log(x, 0, 0, 0, 501, "abc", 598);
        check.fails("refused", IllegalArgumentException.class, () -> Check.log(x, 0, 1, -1, 0, 0, 0));
        Check.log(x, 0, 1, 0, 700, 860, 839);
        check.same("packed", Check.flushed(x, 0), "0 0 255 0 0 1 244 2 97 98 255 0 0 2 88"
            + " 1 0 255 0 0 2 188 255 0 0 3 32 255 0 0 3 132 0 0 65 3 97 98 99 62 1 0 0 124 255 0 0 3 71");
        check.same("another writer's", Check.flushed(x, 1), "0 0 65 0 66");
        EventLog y = new EventLog();
        for (int k = 0; k < 40; k++) {
            Check.site(y, "{d}{d}{d}{d}{d}{d}" + k);
        }
        for (int site = 38; site <= 39; site++) {
            Check.log(y, 0, site, 0, 10 + site, 11 + site, 12 + site, 13 + site, 14 + site, 15 + site);
        }
        Check.log(y, 0, 39, 0, 50, 51, 52, 53, 54, 55);
        Check.log(y, 0, 38, 0, 48, 49, 50, 51, 52, 54);
        check.same("of the last sites and slots", Check.flushed(y, 0), "38 0 112 113 114 115 116 117 39 0 113 114 115 116 117 118"
            + " 39 0 65 65 65 65 65 65 38 0 0 0 0 0 0 65");
        y.open();
        check.same("the last but one, read", Check.line(y, 2), "50515253545539");
        check.same("the last one, read", Check.line(y, 3), "48495051525438");
    }

    private static void textsBySizeAndBytes() {
        check.sentence("A text: its size, and its bytes");
        for (int n = 0; n <= 16; n++) {
            EventLog x = new EventLog();
            Check.site(x, "{t}");
            StringBuilder due = new StringBuilder("0 0 " + n);
            for (int k = 0; k < n; k++) {
                due.append(" ").append(255 - k);
            }
            String text = "\377\376\375\374\373\372\371\370\367\366\365\364\363\362\361\360".substring(0, n);
            check.same("log", Check.log(x, 0, 0, 0, text), 3 + n);
            check.same("log", Check.log(x, 0, 0, 0, text), 6 + 2 * n);
            check.same("a text of " + n + ", twice", Check.flushed(x, 0), due + " " + due);
        }
    }

    private static void theHeadOfABlock() {
        check.sentence("A BLOCK has 256 bytes: 90; the writer; ..; the time of its first event, eight bytes, the highest first");
        for (int writer = 0; writer < 4; writer++) {
            EventLog x = new EventLog();
            Check.site(x, "");
            x.log(writer, 0, 0x0123456789ABCDEFL);
            x.log(writer, 0, Long.MAX_VALUE);
            x.flush(writer);
            check.same("size", x.size(), 256);
            check.same("head", Check.file(x, 0, 14), "90 " + writer + " 0 0 1 35 69 103 137 171 205 239 0 12");
        }
    }

    private static void whichBlockOfItsWriter() {
        check.sentence("which block of the writer it is in this file (from 0 on, two bytes, the higher one first)");
        EventLog x = new EventLog();
        Check.site(x, "");
        int[] had = new int[4];
        for (int k = 0; k < 24; k++) {
            int writer = k < 4 ? k : k % 3;
            x.log(writer, 0, 0);
            x.flush(writer);
            check.same("block " + k, Check.file(x, 256 * k, 256 * k + 4), "90 " + writer + " 0 " + had[writer]);
            had[writer]++;
        }
        x.rotate();
        for (int k = 0; k < 24; k++) {
            x.log(3, 0, 0);
            x.flush(3);
            check.same("block " + k + " of one", Check.file(x, 256 * k, 256 * k + 4), "90 3 0 " + k);
        }
    }

    /** Twelve events of 19 bytes: the block has 228, and room for ten. */
    private static EventLog withRoomForTen(int writer) {
        EventLog x = new EventLog();
        Check.site(x, "{t}");
        Check.site(x, "");
        for (int k = 1; k <= 12; k++) {
            Check.log(x, writer, 0, 7, "sixteen bytes ..");
        }
        return x;
    }

    private static void twoHundredAndThirtyEightBytes() {
        check.sentence("how many bytes its events have, n (at most 238; two bytes, the higher one first)");
        for (int n = 0; n <= 16; n++) {
            EventLog x = withRoomForTen(1);
            boolean fits = n + 3 <= 10;
            check.same("an event of " + (n + 3), Check.log(x, 1, 0, 7, "x".repeat(n)), fits ? 231 + n : 3 + n);
            check.same("the file", x.size(), fits ? 0 : 256);
            x.flush(1);
            check.same("n", Check.file(x, 12, 14), "0 " + (fits ? 231 + n : 228));
            check.same("lines", x.open(), 13);
            check.same("broken", x.broken(), 0);
            check.same("the last event's text", x.about(12, 0), n);
        }
        EventLog x = withRoomForTen(1);
        for (int n = 230; n <= 238; n += 2) {
            check.same("log", x.log(1, 1, 7), n);
            check.same("the file", x.size(), 0);
        }
        check.same("two more", x.log(1, 1, 7), 2);
        check.same("the file", x.size(), 256);
    }

    /** A site of one byte, a VAR of nine and six texts of 16 bytes: no event is larger. */
    private static void theLargestEvent() {
        check.sentence("for each slot: .. A text: its size, and its bytes: the largest event, of 112 bytes");
        EventLog x = new EventLog();
        Check.site(x, "");
        Check.site(x, "{t}{t}{t}{t}{t}{t}");
        x.log(0, 0, 0);
        String[] texts = new String[6];
        for (int k = 0; k < 6; k++) {
            texts[k] = ("text " + k + " has sixteen").substring(0, 15) + (char) (250 + k);
        }
        Object[] arguments = texts;
        check.same("log", Check.log(x, 0, 1, Long.MAX_VALUE, arguments), 2 + 1 + 9 + 6 * 17);
        check.same("the next one", x.log(0, 0, Long.MAX_VALUE), 116);
        x.flush(0);
        check.same("its last byte, and the next event", Check.file(x, 14 + 113, 14 + 116), "255 0 0");
        check.same("open", x.open(), 3);
        check.same("the largest one is line 1", x.about(1, -1), 1);
        check.same("its text", Check.line(x, 1), String.join("", texts));
    }

    private static void zerosBehindTheEvents() {
        check.sentence("these; zeros");
        EventLog x = withRoomForTen(0);
        Check.log(x, 0, 0, 7, "sixteen bytes ..");
        check.same("one block", x.size(), 256);
        check.same("ten zeros", Check.file(x, 14 + 228 - 1, 252), "46" + " 0".repeat(10));
        x.flush(0);
        check.same("zeros behind fewer events than the block before had", Check.file(x, 256 + 14 + 19 - 1, 508), "46" + " 0".repeat(219));
        EventLog y = withRoomForTen(0);
        Check.log(y, 0, 0, 7, "1234567");
        y.flush(0);
        check.same("none", Check.file(y, 251, 252), "55");
        y.rotate();
        y.log(0, 1, 0);
        y.flush(0);
        check.same("zeros where the file before had bytes", Check.file(y, 14, 252), "1" + " 0".repeat(237));
    }

    private static void theSum() {
        check.sentence("THE SUM: of all bytes before it, s * 31 and the byte, from s = 0 on, as an int that wraps around; the highest first");
        for (int k = 0; k < 40; k++) {
            EventLog x = new EventLog();
            Check.site(x, "{d}{t}");
            for (int n = 0; n < k % 8; n++) {
                Check.log(x, k % 4, 0, k * 1000003L * n, k * 77777777 * n, "\377\200\177");
            }
            Check.log(x, k % 4, 0, Long.MAX_VALUE, k, "");
            x.flush(k % 4);
            BigInteger s = BigInteger.ZERO;
            for (int i = 0; i < 252; i++) {
                s = s.multiply(BigInteger.valueOf(31)).add(BigInteger.valueOf(x.byteOf(i)));
            }
            int due = s.intValue();
            check.same("sum", Check.file(x, 252, 256),
                (due >>> 24) + " " + (due >>> 16 & 255) + " " + (due >>> 8 & 255) + " " + (due & 255));
        }
    }

    private static void anEventThatDoesNotFit() {
        check.sentence("an event that does not fit in any more makes the block go to THE FILE, and is packed into an empty one");
        EventLog x = withRoomForTen(2);
        Check.site(x, "{d}{x}");
        Check.log(x, 2, 2, 7, 60, 60);
        check.same("232 bytes", Check.log(x, 2, 0, 7, "abc"), 238);
        check.same("packed anew: the time, and the numbers", Check.log(x, 2, 2, 1000, 61, 61), 12);
        check.same("the file", x.size(), 256);
        check.same("packed", Check.flushed(x, 2), "2 0 255 0 0 0 61 255 0 0 0 61");
        check.same("the time", Check.file(x, 256, 270), "90 2 0 1 0 0 0 0 0 0 3 232 0 12");
        EventLog y = withRoomForTen(2);
        check.same("with a VAR of nine bytes it just fits", y.log(2, 1, Long.MAX_VALUE), 238);
        EventLog z = withRoomForTen(2);
        z.log(2, 1, 7);
        check.same("with its long VAR it does not fit", z.log(2, 1, Long.MAX_VALUE), 2);
        check.same("the file", z.size(), 256);
        EventLog w = withRoomForTen(2);
        check.same("another writer's block stays", w.log(3, 1, 0), 2);
        Check.log(w, 2, 0, 8, "12345678");
        check.same("one block", w.size(), 256);
        check.same("another writer's block stayed", w.log(3, 1, 0), 4);
        check.fails("there is no writer 4", NoSuchElementException.class, () -> w.log(4, 1, 0));
    }
}
