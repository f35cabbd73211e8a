/** Promises 20 (where), 21 (search), 22 (clear), 23 (find), 24 (count) and 25 (distinct). */
public final class QueryTest {
    private static final Check check = new Check("QueryTest");

    public static void main(String[] args) {
        noTermsHoldForAll();
        whereEachKind();
        whereWithOddSlots();
        whereRefuses();
        searchInTheLine();
        searchRefuses();
        searchSeesNamesAsTheyAre();
        allTermsMustHold();
        clearTells();
        findFrom();
        distinctNumbers();
        distinctRefuses();
        termsStay();
        check.end();
    }

    /** Lines 0 .. 7, at times 0 .. 7, of sites 0, 1, 0, 1, .. and writers 0, 0, 0, 0, 1, 1, 1, 1. */
    private static EventLog logged() {
        EventLog x = new EventLog();
        Check.site(x, "a={d} b={d}");
        Check.site(x, "t={t} n={d}");
        for (int k = 0; k < 8; k++) {
            if (k % 2 == 0) {
                Check.log(x, k / 4, 0, k, k - 4, 7);
            } else {
                Check.log(x, k / 4, 1, k, "text" + k, k / 4);
            }
        }
        x.flush(0);
        x.flush(1);
        x.open();
        return x;
    }

    private static String found(EventLog x) {
        StringBuilder s = new StringBuilder();
        for (int k = x.find(0); k >= 0; k = x.find(k + 1)) {
            s.append(k);
        }
        check.same("count", x.count(), s.length());
        return s.toString();
    }

    private static void noTermsHoldForAll() {
        EventLog x = logged();
        check.same("all", found(x), "01234567");
    }

    private static void where(int kind, int a, int b, String due) {
        EventLog x = logged();
        check.same("where", x.where(kind, a, b), 1);
        check.same("where " + kind + " " + a + " " + b, found(x), due);
    }

    private static void whereEachKind() {
        where(0, 0, 0, "0246");
        where(0, 1, 99, "1357");
        where(0, 2, 0, "");
        where(0, -1, 0, "");
        where(1, 0, 0, "0123");
        where(1, 1, -5, "4567");
        where(1, 3, 0, "");
        where(2, 0, 0, "46");
        where(2, 0, -2, "246");
        where(2, 0, -3, "246");
        where(2, 0, Integer.MIN_VALUE, "0246");
        where(2, 1, 1, "024567");
        where(2, 1, 8, "");
        where(3, 0, 0, "024");
        where(3, 0, -1, "02");
        where(3, 0, -5, "");
        where(3, 0, Integer.MAX_VALUE, "0246");
        where(3, 1, 0, "13");
    }

    private static void whereWithOddSlots() {
        int[] slots = {2, 5, 6, -1, Integer.MAX_VALUE, Integer.MIN_VALUE};
        for (int slot : slots) {
            where(2, slot, Integer.MIN_VALUE, "");
            where(3, slot, Integer.MAX_VALUE, "");
        }
    }

    private static void whereRefuses() {
        EventLog x = logged();
        int[] wrong = {-1, 4, Integer.MAX_VALUE, Integer.MIN_VALUE};
        for (int kind : wrong) {
            check.fails("kind " + kind, IllegalArgumentException.class, () -> x.where(kind, 0, 0));
        }
        for (int k = 1; k <= 4; k++) {
            check.same("where", x.where(0, 1, 0), k);
        }
        check.fails("a fifth", UnsupportedOperationException.class, () -> x.where(0, 0, 0));
        check.fails("kind comes first", IllegalArgumentException.class, () -> x.where(4, 0, 0));
        check.same("nothing was changed", found(x), "1357");
    }

    private static void search(String part, String due) {
        EventLog x = logged();
        check.same("search", Check.search(x, part), 1);
        check.same("search for " + part, found(x), due);
    }

    private static void searchInTheLine() {
        search("a=", "0246");
        search("a=-4 b=7", "0");
        search("b=7", "0246");
        search("=7", "0246");
        search("text5", "5");
        search("text5 n=1", "5");
        search("t", "1357");
        search("tt", "");
        search("-", "02");
        search("a=0 b=7 ", "");
        search("ext7 n=1x", "");
        search("123456789012345678901234", "");
        search("\0", "");
    }

    private static void searchRefuses() {
        EventLog x = logged();
        check.fails("empty", IllegalArgumentException.class, () -> x.search());
        check.fails("25 bytes", IllegalArgumentException.class, () -> Check.search(x, "x".repeat(25)));
        check.fails("the text was taken", IllegalArgumentException.class, () -> x.search());
        check.same("24 bytes", Check.search(x, "x".repeat(24)), 1);
        for (int k = 2; k <= 4; k++) {
            check.same("search", Check.search(x, "a"), k);
        }
        check.fails("a fifth", UnsupportedOperationException.class, () -> Check.search(x, "a"));
        check.fails("the text's fault comes first, and it was taken", IllegalArgumentException.class, () -> x.search());
        check.fails("too long comes first", IllegalArgumentException.class, () -> Check.search(x, "x".repeat(25)));
        check.fails("a fifth by where", UnsupportedOperationException.class, () -> x.where(0, 0, 0));
        check.same("clear", x.clear(), 4);
    }

    private static void searchSeesNamesAsTheyAre() {
        EventLog x = new EventLog();
        Check.site(x, "{e2}");
        Check.log(x, 0, 0, 0, 1);
        Check.log(x, 0, 0, 0, 2);
        x.flush(0);
        x.open();
        Check.search(x, "two");
        check.same("no names", found(x), "");
        Check.name(x, 2, 2, "a two");
        check.same("a name", found(x), "1");
        Check.name(x, 2, 1, "two");
        check.same("two names", found(x), "01");
        Check.name(x, 2, 2, "b");
        check.same("another name", found(x), "0");
    }

    private static void allTermsMustHold() {
        EventLog x = logged();
        x.where(0, 0, 0);
        check.same("second", Check.search(x, "b=7"), 2);
        check.same("third", x.where(2, 0, -2), 3);
        check.same("found", found(x), "246");
        check.same("fourth", x.where(3, 0, 0), 4);
        check.same("found", found(x), "24");
        x.clear();
        Check.search(x, "text");
        Check.search(x, "7");
        check.same("two searches", found(x), "7");
        x.where(1, 0, 0);
        check.same("and a writer", found(x), "");
    }

    private static void clearTells() {
        EventLog x = logged();
        check.same("clear", x.clear(), 0);
        x.where(0, 7, 0);
        Check.search(x, "a");
        check.same("clear", x.clear(), 2);
        check.same("clear", x.clear(), 0);
        check.same("all again", found(x), "01234567");
        Check.search(x, "te");
        check.same("an old term is gone", found(x), "1357");
        x.clear();
        x.where(0, 0, 0);
        check.same("and so is its text", found(x), "0246");
    }

    private static void findFrom() {
        EventLog x = logged();
        x.where(0, 1, 0);
        int[][] rows = {{0, 1}, {1, 1}, {2, 3}, {7, 7}, {8, -1}, {9, -1}, {Integer.MAX_VALUE, -1}, {-1, 1}, {Integer.MIN_VALUE, 1}};
        for (int[] row : rows) {
            check.same("find " + row[0], x.find(row[0]), row[1]);
        }
    }

    private static void distinctNumbers() {
        EventLog x = logged();
        check.same("slot 0, not of texts", x.distinct(0), 4);
        check.same("slot 1", x.distinct(1), 3);
        check.same("slot 2", x.distinct(2), 0);
        check.same("slot 5", x.distinct(5), 0);
        x.where(1, 1, 0);
        check.same("slot 0 of writer 1", x.distinct(0), 2);
        check.same("slot 1 of writer 1", x.distinct(1), 2);
        x.where(0, 1, 0);
        check.same("slot 0 of texts alone", x.distinct(0), 0);
        check.same("slot 1", x.distinct(1), 1);
        EventLog y = new EventLog();
        Check.site(y, "{x}");
        int[] numbers = {5, -1, 5, Integer.MIN_VALUE, Integer.MAX_VALUE, 0, -1, Integer.MIN_VALUE, 6, 4, 0};
        for (int n : numbers) {
            Check.log(y, 0, 0, 0, n);
        }
        y.flush(0);
        check.same("before open", y.distinct(0), 0);
        y.open();
        check.same("all", y.distinct(0), 7);
        y.where(2, 0, 0);
        check.same("some", y.distinct(0), 5);
        check.same("again", y.distinct(0), 5);
    }

    private static void distinctRefuses() {
        EventLog x = logged();
        int[] wrong = {-1, 6, Integer.MAX_VALUE, Integer.MIN_VALUE};
        for (int slot : wrong) {
            check.fails("distinct " + slot, IndexOutOfBoundsException.class, () -> x.distinct(slot));
        }
    }

    private static void termsStay() {
        EventLog x = logged();
        x.where(0, 1, 0);
        x.open();
        check.same("after open", found(x), "1357");
        x.crash(0);
        x.rotate();
        check.same("after rotate", found(x), "1357");
        x.open();
        check.same("of no lines", found(x), "");
    }
}
