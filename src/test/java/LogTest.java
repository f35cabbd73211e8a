import java.util.NoSuchElementException;

/** Promise 7 (log), and how an event is packed. */
public final class LogTest {
    private static final Check check = new Check("LogTest");

    public static void main(String[] args) {
        numbersByTheirDifference();
        differencesWrapAround();
        everySiteHasItsOwnLastNumbers();
        timesAsVars();
        sitesAsVars();
        theLastSiteHasItsLastNumbersToo();
        textsAreNotPackedByDifference();
        writersHaveTheirOwnBlocks();
        anEventThatDoesNotFit();
        anEventThatJustFits();
        noSuchWriterOrSite();
        wrongArguments();
        wrongTimes();
        afterACrash();
        aFullFile();
        theArgumentsAreTakenWhateverComes();
        whichExceptionComesFirst();
        check.end();
    }

    private static void numbersByTheirDifference() {
        EventLog x = new EventLog();
        Check.site(x, "{d}");
        int[] numbers = {0, 0, 60, 0, 61, 1, 0, -60, 1, -60, 1000, 1001, -1};
        int[] sizes = {3, 6, 9, 12, 19, 22, 25, 28, 35, 42, 49, 52, 59};
        for (int k = 0; k < numbers.length; k++) {
            check.same("log of " + numbers[k], Check.log(x, 0, 0, 5, numbers[k]), sizes[k]);
        }
        check.same("packed", Check.flushed(x, 0), "0 0 0 0 0 0 0 0 124 0 0 4 0 0 255 0 0 0 61 0 0 4 0 0 63 0 0 4"
            + " 0 0 255 0 0 0 1 0 0 255 255 255 255 196 0 0 255 0 0 3 232 0 0 65 0 0 255 255 255 255 255");
    }

    private static void differencesWrapAround() {
        EventLog x = new EventLog();
        Check.site(x, "{d}");
        Check.log(x, 0, 0, 0, Integer.MAX_VALUE);
        Check.log(x, 0, 0, 0, Integer.MIN_VALUE);
        Check.log(x, 0, 0, 0, Integer.MAX_VALUE);
        Check.log(x, 0, 0, 0, Integer.MIN_VALUE + 59);
        Check.log(x, 0, 0, 0, Integer.MAX_VALUE - 1);
        check.same("packed", Check.flushed(x, 0), "0 0 255 127 255 255 255 0 0 65 0 0 63 0 0 124 0 0 255 127 255 255 254");
        x.open();
        check.same("wrapped", x.about(1, 0), Integer.MIN_VALUE);
        check.same("wrapped back", x.about(2, 0), Integer.MAX_VALUE);
        check.same("by 60", x.about(3, 0), Integer.MIN_VALUE + 59);
        check.same("by itself", x.about(4, 0), Integer.MAX_VALUE - 1);
    }

    private static void everySiteHasItsOwnLastNumbers() {
        EventLog x = new EventLog();
        Check.site(x, "{d}{u}");
        Check.site(x, "{x}{f1}");
        Check.log(x, 0, 0, 0, 5, 10);
        Check.log(x, 0, 1, 0, 6, 11);
        Check.log(x, 0, 0, 0, 6, 9);
        Check.log(x, 0, 1, 0, 6, 12);
        check.same("packed", Check.flushed(x, 0), "0 0 69 74 1 0 70 75 0 0 65 63 1 0 0 65");
        Check.log(x, 0, 0, 0, 6, 9);
        check.same("an empty block knows no last number", Check.flushed(x, 0), "0 0 70 73");
    }

    private static void timesAsVars() {
        EventLog x = new EventLog();
        Check.site(x, "");
        long[] times = {100, 100, 227, 355, 355 + 16383, 355 + 16383 + 16384, Long.MAX_VALUE};
        int[] sizes = {2, 4, 6, 9, 12, 16, 26};
        for (int k = 0; k < times.length; k++) {
            check.same("log at " + times[k], x.log(2, 0, times[k]), sizes[k]);
        }
        check.same("packed", Check.flushed(x, 2),
            "0 0 0 0 0 127 0 128 1 0 255 127 0 128 128 1 0 157 253 253 255 255 255 255 255 127");
        check.same("the block's time", Check.file(x, 4, 12), "0 0 0 0 0 0 0 100");
        check.same("the last time again", x.log(2, 0, Long.MAX_VALUE), 2);
        x.flush(2);
        check.same("the next block's time", Check.file(x, 260, 268), "127 255 255 255 255 255 255 255");
        check.same("lines", x.open(), 8);
        check.same("the last time", x.time(7), Long.MAX_VALUE);
        check.same("the time before", x.time(5), 355 + 16383 + 16384);
    }

    private static void sitesAsVars() {
        EventLog x = new EventLog();
        for (int k = 0; k < 40; k++) {
            Check.site(x, "s" + k);
        }
        check.same("site 39", x.log(0, 39, 0), 2);
        check.same("packed", Check.flushed(x, 0), "39 0");
    }

    private static void theLastSiteHasItsLastNumbersToo() {
        EventLog x = new EventLog();
        for (int k = 0; k < 40; k++) {
            Check.site(x, "{d}{d}{d}{d}{d}{d}" + k);
        }
        Check.log(x, 0, 38, 0, 100, 200, 300, 400, 500, 600);
        Check.log(x, 0, 39, 0, 101, 201, 301, 401, 501, 601);
        Check.log(x, 0, 39, 0, 102, 201, 302, 401, 502, 602);
        Check.log(x, 0, 38, 0, 99, 200, 300, 400, 500, 599);
        x.flush(0);
        check.same("packed by difference", Check.file(x, 14 + 64, 14 + 80), "39 0 65 0 65 0 65 65 38 0 63 0 0 0 0 63");
        x.open();
        check.same("unpacked", Check.line(x, 2), "10220130240150260239");
        check.same("unpacked", Check.line(x, 3), "9920030040050059938");
    }

    private static void textsAreNotPackedByDifference() {
        EventLog x = new EventLog();
        Check.site(x, "{t}{d}{t}");
        check.same("log", Check.log(x, 1, 0, 0, "", 3, "a\377"), 7);
        check.same("log", Check.log(x, 1, 0, 0, "", 4, "a\377"), 14);
        check.same("packed", Check.flushed(x, 1), "0 0 0 67 2 97 255 0 0 0 65 2 97 255");
    }

    private static void writersHaveTheirOwnBlocks() {
        EventLog x = new EventLog();
        Check.site(x, "{d}");
        for (int w = 0; w < 4; w++) {
            check.same("log", Check.log(x, w, 0, 40 - w, 7), 3);
        }
        for (int w = 0; w < 4; w++) {
            check.same("log", Check.log(x, w, 0, 41, 8), 6);
        }
        check.same("nothing in the file", x.size(), 0);
        x.flush(2);
        check.same("the writer", Check.file(x, 0, 20), "90 2 0 0 0 0 0 0 0 0 0 38 0 6 0 0 71 0 3 65");
    }

    private static void anEventThatDoesNotFit() {
        EventLog x = new EventLog();
        Check.site(x, "{t}{t}{t}{t}{t}{t}");
        String s = "1234567890123456";
        check.same("104 bytes", Check.log(x, 3, 0, 1, s, s, s, s, s, s), 104);
        check.same("208 bytes", Check.log(x, 3, 0, 2, s, s, s, s, s, s), 208);
        check.same("its block is empty", x.size(), 0);
        check.same("it goes into the next one", Check.log(x, 3, 0, 300, s, s, s, s, s, s), 104);
        check.same("the block went to the file", x.size(), 256);
        check.same("its head", Check.file(x, 0, 14), "90 3 0 0 0 0 0 0 0 0 0 1 0 208");
        check.same("zeros behind its events", Check.file(x, 222, 252), "0 ".repeat(29) + "0");
        x.flush(3);
        check.same("the second one's head", Check.file(x, 256, 270), "90 3 0 1 0 0 0 0 0 0 1 44 0 104");
        check.same("the second one's sum", x.byteOf(511), Check.sum(x, 1) & 255);
        check.same("the second one's sum", x.byteOf(508), Check.sum(x, 1) >>> 24);
    }

    private static void anEventThatJustFits() {
        EventLog x = new EventLog();
        Check.site(x, "");
        Check.site(x, "{t}");
        for (int k = 1; k <= 119; k++) {
            check.same("log", x.log(0, 0, 0), 2 * k);
        }
        check.same("238 bytes fit", x.size(), 0);
        check.same("two more do not", x.log(0, 0, 0), 2);
        check.same("one block", x.size(), 256);
        check.same("its count", Check.file(x, 12, 14), "0 238");
        for (int k = 2; k <= 117; k++) {
            x.log(0, 0, 0);
        }
        check.same("237 bytes", Check.log(x, 0, 1, 0, ""), 237);
        check.same("239 do not fit", x.log(0, 0, 0), 2);
        check.same("two blocks", x.size(), 512);
        check.same("lines of both", x.open(), 119 + 118);
    }

    private static void noSuchWriterOrSite() {
        EventLog x = new EventLog();
        check.fails("no site yet", NoSuchElementException.class, () -> x.log(0, 0, 0));
        Check.site(x, "");
        int[][] wrong = {{-1, 0}, {4, 0}, {0, -1}, {0, 1}, {0, 40}, {Integer.MAX_VALUE, 0}, {0, Integer.MIN_VALUE}};
        for (int[] w : wrong) {
            check.fails("log " + w[0] + " " + w[1], NoSuchElementException.class, () -> x.log(w[0], w[1], 0));
        }
        check.same("nothing was logged", x.log(0, 0, 0), 2);
    }

    private static void wrongArguments() {
        EventLog x = new EventLog();
        Check.site(x, "{d}{t}");
        Check.site(x, "");
        Object[][] wrong = {{}, {1}, {"a"}, {1, 2}, {"a", "b"}, {"a", 1}, {1, "a", 1}, {1, "a", "b"}};
        for (Object[] w : wrong) {
            check.fails("log", IllegalArgumentException.class, () -> Check.log(x, 0, 0, 0, w));
        }
        check.fails("one where none is due", IllegalArgumentException.class, () -> Check.log(x, 0, 1, 0, 1));
        check.fails("a text where none is due", IllegalArgumentException.class, () -> Check.log(x, 0, 1, 0, ""));
        String[] kinds = {"{u}", "{x}", "{f3}", "{e3}", "{d}"};
        for (String k : kinds) {
            int site = Check.site(x, k);
            check.fails("a text for " + k, IllegalArgumentException.class, () -> Check.log(x, 0, site, 0, "1"));
        }
        check.same("nothing was logged", Check.log(x, 0, 0, 0, 1, "a"), 5);
    }

    private static void wrongTimes() {
        EventLog x = new EventLog();
        Check.site(x, "");
        check.fails("below 0", IllegalArgumentException.class, () -> x.log(0, 0, -1));
        check.fails("far below 0", IllegalArgumentException.class, () -> x.log(0, 0, Long.MIN_VALUE));
        x.log(0, 0, 1L << 40);
        check.fails("before the last", IllegalArgumentException.class, () -> x.log(0, 0, (1L << 40) - 1));
        check.same("another writer", x.log(1, 0, 0), 2);
        x.flush(0);
        check.fails("before the last one in the file", IllegalArgumentException.class, () -> x.log(0, 0, (1L << 40) - 1));
        check.same("the same time", x.log(0, 0, 1L << 40), 2);
        x.rotate();
        check.same("a new file", x.log(0, 0, 0), 2);
    }

    private static void afterACrash() {
        EventLog x = new EventLog();
        Check.site(x, "");
        x.log(0, 0, 0);
        x.flush(0);
        check.same("nothing is lost", x.crash(1000), 256);
        check.fails("log", IllegalStateException.class, () -> x.log(0, 0, 0));
        check.fails("another writer", IllegalStateException.class, () -> x.log(1, 0, 0));
        x.rotate();
        check.same("a new file", x.log(0, 0, 0), 2);
    }

    static EventLog fullFile() {
        EventLog x = new EventLog();
        Check.site(x, "");
        for (int k = 0; k < 24; k++) {
            x.log(k % 3, 0, k);
            x.flush(k % 3);
        }
        return x;
    }

    private static void aFullFile() {
        EventLog x = fullFile();
        check.same("24 blocks", x.size(), 24 * 256);
        for (int k = 1; k <= 119; k++) {
            check.same("a block has room yet", x.log(1, 0, 100), 2 * k);
        }
        check.fails("the file has none", UnsupportedOperationException.class, () -> x.log(1, 0, 101));
        check.fails("again", UnsupportedOperationException.class, () -> x.log(1, 0, 100));
        check.fails("the time was not changed", IllegalArgumentException.class, () -> x.log(1, 0, 99));
        check.same("the file was not changed", x.size(), 24 * 256);
        check.same("another writer", x.log(3, 0, 0), 2);
        x.rotate();
        check.same("a new file", x.log(1, 0, 0), 2);
    }

    private static void theArgumentsAreTakenWhateverComes() {
        EventLog x = fullFile();
        check.same("one more site", Check.site(x, "{d}"), 1);
        x.arg(1);
        check.fails("no writer", NoSuchElementException.class, () -> x.log(4, 1, 100));
        check.same("taken", x.arg(1), 1);
        check.fails("wrong time", IllegalArgumentException.class, () -> x.log(0, 1, -1));
        check.same("taken", x.arg(1), 1);
        check.same("logged", x.log(0, 1, 100), 3);
        check.same("taken", x.arg(1), 1);
        x.log(0, 1, 100);
        for (int k = 0; k < 116; k++) {
            x.log(0, 0, 100);
        }
        x.arg(1);
        check.fails("no room", UnsupportedOperationException.class, () -> x.log(0, 1, 100));
        check.same("taken", x.arg(1), 1);
        x.crash(0);
        check.fails("cut", IllegalStateException.class, () -> x.log(0, 1, 100));
        check.same("taken", x.arg(1), 1);
    }

    private static void whichExceptionComesFirst() {
        EventLog x = fullFile();
        for (int k = 0; k < 119; k++) {
            x.log(0, 0, 100);
        }
        check.fails("time before room", IllegalArgumentException.class, () -> x.log(0, 0, 99));
        check.fails("arguments before room", IllegalArgumentException.class, () -> Check.log(x, 0, 0, 100, 1));
        x.crash(0);
        check.fails("cut before time", IllegalStateException.class, () -> x.log(0, 0, -1));
        check.fails("cut before arguments", IllegalStateException.class, () -> Check.log(x, 0, 0, 100, 1));
        check.fails("writer before cut", NoSuchElementException.class, () -> x.log(-1, 0, -1));
        check.fails("site before cut", NoSuchElementException.class, () -> x.log(0, 1, -1));
    }
}
