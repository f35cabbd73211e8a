/** The boundary cases of queries: promises 20 to 25. */
public final class QueryEdgeTest {
    private static final Check check = new Check("QueryEdgeTest");
    private static final int[] ENDS = {
        Integer.MIN_VALUE, Integer.MIN_VALUE + 1, -61, -1, 0, 1, 60, Integer.MAX_VALUE - 1, Integer.MAX_VALUE};

    public static void main(String[] args) {
        kinds();
        fourTerms();
        theSiteIs();
        theWriterIs();
        numbersNotBelow();
        numbersNotAbove();
        aSlotWithANumber();
        searchOfOneToTwentyFour();
        searchIsTheFourth();
        itStandsSomewhere();
        textsAreNotFormats();
        clearTellsHowMany();
        findFromOneOn();
        countOfLines();
        distinctSlots();
        distinctNumbers();
        allTermsHold();
        check.end();
    }

    /** Lines in this order, at times 0, 1, ..: of site 0, {d}, with these numbers. */
    private static EventLog numbers(int... numbers) {
        EventLog x = new EventLog();
        Check.site(x, "{d}");
        for (int k = 0; k < numbers.length; k++) {
            Check.log(x, 0, 0, k, numbers[k]);
        }
        x.flush(0);
        x.open();
        return x;
    }

    private static EventLog logged(String format, Object... arguments) {
        EventLog x = new EventLog();
        Check.log(x, 0, Check.site(x, format), 0, arguments);
        x.flush(0);
        x.open();
        return x;
    }

    private static void kinds() {
        check.sentence("where: IllegalArgumentException for another kind");
        for (int kind : new int[] {Integer.MIN_VALUE, -256, -1, 0, 1, 2, 3, 4, 5, 256, Integer.MAX_VALUE}) {
            EventLog x = numbers(1);
            if (kind >= 0 && kind <= 3) {
                check.same("where", x.where(kind, 0, 1), 1);
                check.same("terms", x.clear(), 1);
            } else {
                check.fails("kind " + kind, IllegalArgumentException.class, () -> x.where(kind, 0, 0));
                check.same("all lines hold", x.count(), 1);
                check.same("terms", x.clear(), 0);
            }
        }
    }

    private static void fourTerms() {
        check.sentence("where: how many it has; UnsupportedOperationException when it has four");
        for (int kind = 0; kind <= 3; kind++) {
            int which = kind;
            EventLog x = numbers(0);
            for (int k = 1; k <= 4; k++) {
                check.same("where", x.where(which, 0, 0), k);
            }
            check.fails("a fifth", UnsupportedOperationException.class, () -> x.where(which, 7, 7));
            check.same("the fifth does not count", x.count(), 1);
            check.same("terms", x.clear(), 4);
            check.same("there is room again", x.where(which, 7, 7), 1);
            check.same("and it counts", x.count(), 0);
        }
    }

    private static void theSiteIs() {
        check.sentence("Kind 0: the site is a");
        EventLog x = new EventLog();
        for (int k = 0; k < 40; k++) {
            Check.site(x, "s" + k);
            x.log(0, k, k);
        }
        x.flush(0);
        x.open();
        for (int a : new int[] {Integer.MIN_VALUE, -1, 0, 1, 38, 39, 40, 255, 256, Integer.MAX_VALUE}) {
            x.where(0, a, Integer.MIN_VALUE);
            boolean isSite = a >= 0 && a < 40;
            check.same("find " + a, x.find(0), isSite ? a : -1);
            check.same("count " + a, x.count(), isSite ? 1 : 0);
            x.clear();
        }
    }

    private static void theWriterIs() {
        check.sentence("Kind 1: the writer is a");
        EventLog x = new EventLog();
        Check.site(x, "");
        for (int w = 0; w < 4; w++) {
            x.log(w, 0, w);
            x.flush(w);
        }
        x.open();
        for (int a : new int[] {Integer.MIN_VALUE, -1, 0, 1, 2, 3, 4, 256, Integer.MAX_VALUE}) {
            x.where(1, a, Integer.MAX_VALUE);
            boolean isWriter = a >= 0 && a < 4;
            check.same("find " + a, x.find(0), isWriter ? a : -1);
            check.same("count " + a, x.count(), isWriter ? 1 : 0);
            x.clear();
        }
    }

    private static int among(int bound, boolean isBelow) {
        int n = 0;
        for (int e : ENDS) {
            n += isBelow ? e <= bound ? 1 : 0 : e >= bound ? 1 : 0;
        }
        return n;
    }

    private static void numbersNotBelow() {
        check.sentence("2: it has a slot a with a number not below b");
        EventLog x = numbers(ENDS);
        for (int b : ENDS) {
            x.where(2, 0, b);
            check.same("not below " + b, x.count(), among(b, false));
            check.same("the first", x.time(x.find(0)), ENDS.length - among(b, false));
            x.clear();
        }
        check.same("5 is not below 5", held("{d}", 2, 0, 5, 5), 1);
        check.same("5 is below 6", held("{d}", 2, 0, 6, 5), 0);
        check.same("as it is signed", held("{u}", 2, 0, 0, -1), 0);
        check.same("as it is signed", held("{x}", 2, 0, -1, -1), 1);
        check.same("whatever is printed", held("{f6}", 2, 0, 5, 5), 1);
        check.same("whatever is printed", held("{e0}", 2, 0, 31, 31), 1);
    }

    private static void numbersNotAbove() {
        check.sentence("3: with a number not above b");
        EventLog x = numbers(ENDS);
        for (int b : ENDS) {
            x.where(3, 0, b);
            check.same("not above " + b, x.count(), among(b, true));
            check.same("the first", x.find(0), 0);
            check.same("the one behind the last", x.find(among(b, true)), -1);
            x.clear();
        }
        check.same("5 is not above 5", held("{d}", 3, 0, 5, 5), 1);
        check.same("5 is above 4", held("{d}", 3, 0, 4, 5), 0);
        check.same("as it is signed", held("{u}", 3, 0, 0, -1), 1);
    }

    private static int held(String format, int kind, int a, int b, Object... arguments) {
        EventLog x = logged(format, arguments);
        x.where(kind, a, b);
        return x.count();
    }

    private static void aSlotWithANumber() {
        check.sentence("it has a slot a with a number: not one with a text, nor one that there is not");
        for (int a : new int[] {Integer.MIN_VALUE, -2, -1, 0, 1, 2, 3, 4, 5, 6, 7, 256, Integer.MAX_VALUE}) {
            boolean hasNumber = a >= 0 && a <= 5;
            check.same("slot " + a + " of six", held("{d}{d}{d}{d}{d}{d}", 2, a, Integer.MIN_VALUE, 1, 2, 3, 4, 5, 6), hasNumber ? 1 : 0);
            check.same("slot " + a + " of six", held("{d}{d}{d}{d}{d}{d}", 3, a, Integer.MAX_VALUE, 1, 2, 3, 4, 5, 6), hasNumber ? 1 : 0);
            check.same("of six texts", held("{t}{t}{t}{t}{t}{t}", 2, a, Integer.MIN_VALUE, "", "a", "", "b", "", ""), 0);
            check.same("of six texts", held("{t}{t}{t}{t}{t}{t}", 3, a, Integer.MAX_VALUE, "", "a", "", "b", "", ""), 0);
            check.same("of a number and a text", held("{d}{t}", 2, a, Integer.MIN_VALUE, 0, ""), a == 0 ? 1 : 0);
            check.same("of a number and a text", held("{d}{t}", 3, a, Integer.MAX_VALUE, 0, ""), a == 0 ? 1 : 0);
            check.same("of none", held("", 2, a, Integer.MIN_VALUE), 0);
            check.same("of none", held("", 3, a, Integer.MAX_VALUE), 0);
        }
        for (int a = 0; a < 6; a++) {
            check.same("that slot's number", held("{d}{d}{d}{d}{d}{d}", 2, a, a + 1, 1, 2, 3, 4, 5, 6), 1);
            check.same("that slot's number", held("{d}{d}{d}{d}{d}{d}", 2, a, a + 2, 1, 2, 3, 4, 5, 6), 0);
            check.same("that slot's number", held("{d}{d}{d}{d}{d}{d}", 3, a, a + 1, 1, 2, 3, 4, 5, 6), 1);
            check.same("that slot's number", held("{d}{d}{d}{d}{d}{d}", 3, a, a, 1, 2, 3, 4, 5, 6), 0);
        }
    }

    private static void searchOfOneToTwentyFour() {
        check.sentence("search: IllegalArgumentException when it is empty or has more than 24 bytes");
        for (int n = 0; n <= 200; n += n < 27 ? 1 : 29) {
            EventLog x = logged("abcdefghijklmnopqrstuvwxyz".repeat(3));
            String s = "abcdefghijklmnopqrstuvwxyz".repeat(8).substring(0, n);
            if (n >= 1 && n <= 24) {
                check.same("search of " + n, Check.search(x, s), 1);
                check.same("it stands there", x.count(), 1);
            } else {
                check.fails("search of " + n, IllegalArgumentException.class, () -> Check.search(x, s));
                check.same("no term came", x.clear(), 0);
            }
        }
        EventLog x = logged("abcdefghijklmnopqrstuvwxyz");
        Check.search(x, "abcdefghijklmnopqrstuvwx");
        check.same("24 bytes that stand there", x.count(), 1);
        x.clear();
        Check.search(x, "abcdefghijklmnopqrstuvw!");
        check.same("24 bytes of which the last does not", x.count(), 0);
    }

    private static void searchIsTheFourth() {
        check.sentence("search: how many terms the query has; UnsupportedOperationException when it has four");
        for (int searches = 0; searches <= 4; searches++) {
            EventLog x = logged("abc");
            for (int k = 1; k <= 4; k++) {
                check.same("term", k <= searches ? Check.search(x, "b") : x.where(0, 0, 0), k);
            }
            check.fails("a fifth", UnsupportedOperationException.class, () -> Check.search(x, "z"));
            check.fails("a fifth", UnsupportedOperationException.class, () -> x.where(0, 9, 0));
            check.same("the fifth does not count", x.count(), 1);
            check.same("terms", x.clear(), 4);
            check.same("there is room again", Check.search(x, "z"), 1);
            check.same("and it counts", x.count(), 0);
        }
    }

    private static int searched(EventLog x, String s) {
        x.clear();
        Check.search(x, s);
        return x.count();
    }

    private static void itStandsSomewhere() {
        check.sentence("it stands somewhere in the line's text");
        EventLog x = logged("ab{d}cd{t}ef", 12, "x\0\377y");
        String line = "ab12cdx\0\377yef";
        for (int from = 0; from < line.length(); from++) {
            for (int to = from + 1; to <= line.length(); to++) {
                check.same("from " + from + " to " + to, searched(x, line.substring(from, to)), 1);
            }
        }
        EventLog y = logged("ab{d}cd{t}ef", 12, "x\0\377y");
        for (String s : new String[] {"ab12cdx\0\377yef ", " ab12", "ab12cdx\0\377yeff", "b1c", "AB", "{d}", "ef\0", "\377\0", "\376", "a1"}) {
            check.same("not there: " + s, searched(y, s), 0);
        }
        EventLog z = logged("aaab{t}", "aab");
        for (String s : new String[] {"aaab", "aab", "baab", "aaabaab"}) {
            check.same("behind a false beginning: " + s, searched(z, s), 1);
        }
        check.same("once too many", searched(z, "aaaa"), 0);
        check.same("in an empty line", searched(logged(""), "a"), 0);
        check.same("a text of no bytes", searched(logged("{t}", ""), "\0"), 0);
    }

    private static void textsAreNotFormats() {
        check.sentence("The text is taken as a term: any bytes");
        EventLog x = logged("{{}}{t}", "{\n}\200");
        for (String s : new String[] {"{", "}", "{}", "}{", "{\n}", "\200", "\n"}) {
            check.same("search", searched(x, s), 1);
        }
        check.same("as it is printed", searched(x, "{{"), 0);
    }

    private static void clearTellsHowMany() {
        check.sentence("The query has no terms: how many it had");
        for (int n = 0; n <= 4; n++) {
            EventLog x = numbers(1, 2);
            for (int k = 0; k < n; k++) {
                x.where(0, 1, 0);
            }
            check.same("before", x.count(), n == 0 ? 2 : 0);
            check.same("clear", x.clear(), n);
            check.same("clear again", x.clear(), 0);
            check.same("no term", x.count(), 2);
            check.same("a first one", x.where(2, 0, 2), 1);
            check.same("the old ones are gone", x.count(), 1);
        }
    }

    private static void findFromOneOn() {
        check.sentence("The first line from one on (0 if that is below) for which all terms hold; -1 if there is none");
        EventLog x = numbers(5, 1, 5, 5, 1);
        x.where(2, 0, 5);
        int[][] rows = {{Integer.MIN_VALUE, 0}, {-256, 0}, {-1, 0}, {0, 0}, {1, 2}, {2, 2}, {3, 3}, {4, -1}, {5, -1}, {6, -1}, {256, -1},
            {Integer.MAX_VALUE, -1}};
        for (int[] r : rows) {
            check.same("find " + r[0], x.find(r[0]), r[1]);
        }
        x.clear();
        check.same("the last one", x.find(4), 4);
        check.same("behind it", x.find(5), -1);
        x.where(2, 0, 6);
        check.same("none at all", x.find(0), -1);
        check.same("none at all, from below", x.find(-1), -1);
        EventLog none = numbers();
        for (int from : new int[] {Integer.MIN_VALUE, -1, 0, 1, Integer.MAX_VALUE}) {
            check.same("no lines", none.find(from), -1);
        }
    }

    private static void countOfLines() {
        check.sentence("For how many lines all terms hold");
        check.same("no lines", numbers().count(), 0);
        check.same("no terms", numbers(1, 1, 1).count(), 3);
        EventLog x = numbers(1, 2, 3);
        for (int b = 0; b <= 4; b++) {
            x.where(3, 0, b);
            check.same("not above " + b, x.count(), Math.min(b, 3));
            x.clear();
        }
    }

    private static void distinctSlots() {
        check.sentence("distinct: IndexOutOfBoundsException when slot is not 0 .. 5");
        EventLog x = logged("{d}{d}{d}{d}{d}{d}", 1, 2, 3, 4, 5, 6);
        EventLog empty = new EventLog();
        for (int slot : new int[] {Integer.MIN_VALUE, -256, -2, -1, 0, 1, 2, 3, 4, 5, 6, 7, 256, Integer.MAX_VALUE}) {
            if (slot >= 0 && slot <= 5) {
                check.same("slot " + slot, x.distinct(slot), 1);
                check.same("no lines", empty.distinct(slot), 0);
            } else {
                check.fails("slot " + slot, IndexOutOfBoundsException.class, () -> x.distinct(slot));
                check.fails("no lines", IndexOutOfBoundsException.class, () -> empty.distinct(slot));
            }
        }
    }

    private static void distinctNumbers() {
        check.sentence("How many different numbers a slot has in lines for which all terms hold and that have a number there");
        check.same("one", numbers(7).distinct(0), 1);
        check.same("the same", numbers(7, 7, 7).distinct(0), 1);
        check.same("the ends", numbers(ENDS).distinct(0), ENDS.length);
        check.same("the ends backwards, and again", numbers(Integer.MAX_VALUE, 0, Integer.MIN_VALUE, Integer.MAX_VALUE, 0).distinct(0), 3);
        check.same("0 and -1", numbers(0, -1, 0, -1).distinct(0), 2);
        check.same("no such slot", numbers(7).distinct(1), 0);
        check.same("a text", logged("{t}", "a").distinct(0), 0);
        EventLog x = new EventLog();
        Check.site(x, "{d}");
        Check.site(x, "{t}");
        Check.site(x, "");
        Check.site(x, "{x}{d}");
        Check.log(x, 0, 0, 0, 3);
        Check.log(x, 0, 1, 0, "abc");
        x.log(0, 2, 0);
        Check.log(x, 0, 3, 0, 3, 4);
        Check.log(x, 0, 3, 0, 5, 4);
        x.flush(0);
        x.open();
        check.same("whatever the site", x.distinct(0), 2);
        check.same("of one slot", x.distinct(1), 1);
        x.where(3, 0, 4);
        check.same("for which all terms hold", x.distinct(0), 1);
        x.where(0, 1, 0);
        check.same("none", x.distinct(0), 0);
        EventLog many = new EventLog();
        Check.site(many, "{d}");
        for (int k = 0; k < 200; k++) {
            Check.log(many, 0, 0, k, k * 7919 % 100);
        }
        many.flush(0);
        many.open();
        check.same("a hundred, twice each", many.distinct(0), 100);
    }

    private static void allTermsHold() {
        check.sentence("for which all terms hold");
        for (int which = 0; which < 16; which++) {
            EventLog x = logged("a{d}", 5);
            boolean due = which == 15;
            x.where(0, (which & 1) != 0 ? 0 : 1, 0);
            x.where(2, 0, (which & 2) != 0 ? 5 : 6);
            Check.search(x, (which & 4) != 0 ? "a5" : "a6");
            x.where(1, (which & 8) != 0 ? 0 : 1, 0);
            check.same("find " + which, x.find(0), due ? 0 : -1);
            check.same("count " + which, x.count(), due ? 1 : 0);
            check.same("distinct " + which, x.distinct(0), due ? 1 : 0);
        }
        EventLog x = logged("a{d}", 5);
        Check.search(x, "a");
        Check.search(x, "5");
        check.same("two searches", x.count(), 1);
        Check.search(x, "6");
        check.same("three searches", x.count(), 0);
    }
}
