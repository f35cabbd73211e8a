import java.io.ByteArrayOutputStream;
import java.math.BigInteger;
import java.nio.ByteBuffer;
import java.nio.charset.StandardCharsets;
import java.util.ArrayList;
import java.util.Arrays;
import java.util.Comparator;
import java.util.HashMap;
import java.util.HashSet;
import java.util.List;
import java.util.Map;
import java.util.NoSuchElementException;
import java.util.Set;
import java.util.function.Predicate;
import java.util.regex.Matcher;
import java.util.regex.Pattern;

/**
 * The document once more, written by the Java library and in another way than the program, so that
 * a slip in one of the two shows as a difference.
 */
final class Model {
    record Line(long time, int writer, int place, int site, List<Object> values) {
    }

    private static final Pattern SLOT = Pattern.compile("\\{(?:([duxt])|([f])([1-6])|(e)([0-7]))\\}");
    private static final Pattern RIGHT = Pattern.compile("(?:[^{}]|\\{\\{|\\}\\}|" + SLOT.pattern() + ")*");

    private String typed = "";
    private List<Object> arguments = new ArrayList<>();
    private final List<String> sites = new ArrayList<>();
    private final Map<Integer, String> names = new HashMap<>();
    private final List<List<Line>> pending = new ArrayList<>();
    private final int[] blocksOf = new int[4];
    private final long[] lastTime = new long[4];
    private byte[] file = new byte[0];
    private int durable = 0;
    private boolean cut = false;
    private List<Line> lines = new ArrayList<>();
    private int broken = 0;
    private final List<Predicate<Line>> terms = new ArrayList<>();

    Model() {
        for (int w = 0; w < 4; w++) {
            pending.add(new ArrayList<>());
        }
    }

    private String take() {
        String s = typed;
        typed = "";
        return s;
    }

    private static String latin(byte[] b) {
        return new String(b, StandardCharsets.ISO_8859_1);
    }

    private static byte[] bytes(String s) {
        return s.getBytes(StandardCharsets.ISO_8859_1);
    }

    private static boolean printable(String s) {
        return s.chars().allMatch(c -> c >= 32 && c <= 126);
    }

    boolean type(long w, int n) {
        if (n < 1 || n > 8 || typed.length() + n > 200) {
            return false;
        }
        byte[] b = ByteBuffer.allocate(8).putLong(Long.reverseBytes(w)).array();
        typed += latin(Arrays.copyOf(b, n));
        return true;
    }

    private static int slots(String format) {
        int n = 0;
        Matcher m = SLOT.matcher(format.replace("{{", "\1\1"));
        while (m.find()) {
            n++;
        }
        return n;
    }

    /** Could this be the beginning of a right format of any length with at most six slots? */
    private static boolean mayBegin(String s) {
        for (String tail : List.of("", "{", "}", "1}", "d}")) {
            String whole = s + tail;
            if (printable(s) && RIGHT.matcher(whole).matches() && slots(whole) <= 6) {
                return true;
            }
        }
        return false;
    }

    /** The first place at which no right format begins so any more. */
    private static int fault(String s) {
        for (int i = 0; i < s.length(); i++) {
            if (i == 80) {
                return 80;
            }
            if (!mayBegin(s.substring(0, i + 1))) {
                return i;
            }
            String before = s.substring(0, i);
            boolean opens = s.charAt(i) == '{' && RIGHT.matcher(before).matches() && slots(before) == 6;
            if (opens && (i + 1 == s.length() || s.charAt(i + 1) != '{')) {
                return i;
            }
        }
        return RIGHT.matcher(s).matches() ? -1 : s.length();
    }

    int site() {
        String s = take();
        int fault = fault(s);
        if (fault >= 0) {
            return -(fault + 1);
        }
        if (!sites.contains(s)) {
            if (sites.size() == 40) {
                throw new UnsupportedOperationException();
            }
            sites.add(s);
        }
        return sites.indexOf(s);
    }

    void name(int table, int code) {
        String s = take();
        if (table < 0 || table > 7 || code < 0 || code > 31) {
            throw new NoSuchElementException();
        }
        if (s.isEmpty() || s.length() > 12 || !printable(s)) {
            throw new IllegalArgumentException();
        }
        names.put(100 * table + code, s);
    }

    private int add(Object x) {
        if (arguments.size() == 6) {
            throw new UnsupportedOperationException();
        }
        arguments.add(x);
        return arguments.size();
    }

    int arg(int x) {
        return add(x);
    }

    int text() {
        String s = take();
        if (s.length() > 16) {
            throw new IllegalArgumentException();
        }
        return add(s);
    }

    /** The letters d u x t, or f and e with their digit, of a right format's slots. */
    private static List<String> kinds(String format) {
        List<String> found = new ArrayList<>();
        Matcher m = SLOT.matcher(format.replace("{{", "\1\1"));
        while (m.find()) {
            found.add(m.group().substring(1, m.group().length() - 1));
        }
        return found;
    }

    private static boolean fit(List<String> kinds, List<Object> values) {
        if (kinds.size() != values.size()) {
            return false;
        }
        for (int k = 0; k < kinds.size(); k++) {
            if (kinds.get(k).equals("t") != (values.get(k) instanceof String)) {
                return false;
            }
        }
        return true;
    }

    private static void var(ByteArrayOutputStream out, long x) {
        BigInteger rest = BigInteger.valueOf(x);
        BigInteger base = BigInteger.valueOf(128);
        while (rest.compareTo(base) >= 0) {
            out.write(128 + rest.mod(base).intValue());
            rest = rest.divide(base);
        }
        out.write(rest.intValue());
    }

    /** All events of a block, packed from its first one on each time. */
    private static byte[] pack(List<Line> events) {
        ByteArrayOutputStream out = new ByteArrayOutputStream();
        for (int k = 0; k < events.size(); k++) {
            Line e = events.get(k);
            var(out, e.site());
            var(out, k == 0 ? 0 : e.time() - events.get(k - 1).time());
            List<Object> before = null;
            for (int j = 0; j < k; j++) {
                before = events.get(j).site() == e.site() ? events.get(j).values() : before;
            }
            for (int slot = 0; slot < e.values().size(); slot++) {
                if (e.values().get(slot) instanceof String s) {
                    out.write(s.length());
                    out.writeBytes(bytes(s));
                    continue;
                }
                int x = (Integer) e.values().get(slot);
                int d = x - (before == null ? 0 : (Integer) before.get(slot));
                if (d == 0) {
                    out.write(0);
                } else if (d >= -60 && d <= 60) {
                    out.write(64 + d);
                } else {
                    out.write(255);
                    out.writeBytes(ByteBuffer.allocate(4).putInt(x).array());
                }
            }
        }
        return out.toByteArray();
    }

    private static int sum(byte[] block) {
        int s = 0;
        for (int i = 0; i < 252; i++) {
            s = s * 31 + (block[i] & 255);
        }
        return s;
    }

    private void toFile(int writer) {
        if (file.length == 24 * 256) {
            throw new UnsupportedOperationException();
        }
        List<Line> events = pending.get(writer);
        byte[] packed = pack(events);
        ByteBuffer block = ByteBuffer.allocate(256);
        block.put((byte) 90).put((byte) writer).putShort((short) blocksOf[writer]);
        block.putLong(events.get(0).time()).putShort((short) packed.length).put(packed);
        block.putInt(252, sum(block.array()));
        int n = file.length;
        file = Arrays.copyOf(file, n + 256);
        System.arraycopy(block.array(), 0, file, n, 256);
        blocksOf[writer]++;
        events.clear();
    }

    int log(int writer, int site, long time) {
        List<Object> given = arguments;
        arguments = new ArrayList<>();
        if (writer < 0 || writer > 3 || site < 0 || site >= sites.size()) {
            throw new NoSuchElementException();
        }
        if (cut) {
            throw new IllegalStateException();
        }
        if (!fit(kinds(sites.get(site)), given) || time < lastTime[writer]) {
            throw new IllegalArgumentException();
        }
        Line event = new Line(time, writer, 0, site, given);
        List<Line> more = new ArrayList<>(pending.get(writer));
        more.add(event);
        if (pack(more).length > 238) {
            toFile(writer);
        }
        pending.get(writer).add(event);
        lastTime[writer] = time;
        return pack(pending.get(writer)).length;
    }

    int flush(int writer) {
        if (writer < 0 || writer > 3) {
            throw new NoSuchElementException();
        }
        if (cut) {
            throw new IllegalStateException();
        }
        if (!pending.get(writer).isEmpty()) {
            toFile(writer);
        }
        durable = file.length;
        return file.length / 256;
    }

    void rotate() {
        file = new byte[0];
        durable = 0;
        cut = false;
        pending.forEach(List::clear);
        Arrays.fill(blocksOf, 0);
        Arrays.fill(lastTime, 0);
    }

    int crash(int n) {
        if (n < 0) {
            throw new IllegalArgumentException();
        }
        if (cut) {
            throw new IllegalStateException();
        }
        pending.forEach(List::clear);
        file = Arrays.copyOf(file, (int) Math.min(file.length, (long) durable + n));
        cut = true;
        return file.length;
    }

    int size() {
        return file.length;
    }

    int byteOf(int i) {
        if (i < 0 || i >= file.length) {
            throw new IndexOutOfBoundsException();
        }
        return file[i] & 255;
    }

    void damage(int i, int b) {
        if (i < 0 || i >= file.length) {
            throw new IndexOutOfBoundsException();
        }
        file[i] = (byte) b;
    }

    /** What is thrown inside when a block's events are none. */
    private static final class Broken extends Exception {
        private static final long serialVersionUID = 1L;
    }

    private static int next(ByteBuffer in) throws Broken {
        if (!in.hasRemaining()) {
            throw new Broken();
        }
        return in.get() & 255;
    }

    private static BigInteger var(ByteBuffer in) throws Broken {
        List<Integer> found = new ArrayList<>();
        do {
            found.add(next(in));
        } while (found.get(found.size() - 1) >= 128);
        if (found.size() > 9 || found.size() > 1 && found.get(found.size() - 1) == 0) {
            throw new Broken();
        }
        BigInteger x = BigInteger.ZERO;
        for (int k = found.size() - 1; k >= 0; k--) {
            x = x.shiftLeft(7).add(BigInteger.valueOf(found.get(k) & 127));
        }
        return x;
    }

    private static Object value(ByteBuffer in, String kind, Object last) throws Broken {
        int b = next(in);
        if (kind.equals("t")) {
            if (b > 16 || b > in.remaining()) {
                throw new Broken();
            }
            byte[] s = new byte[b];
            in.get(s);
            return latin(s);
        }
        if (b == 255) {
            if (in.remaining() < 4) {
                throw new Broken();
            }
            return in.getInt();
        }
        if (b != 0 && (b < 4 || b > 124 || b == 64)) {
            throw new Broken();
        }
        return (Integer) last + (b == 0 ? 0 : b - 64);
    }

    private List<Line> readBlock(ByteBuffer block, int place) throws Broken {
        int n = block.getShort(12) & 0xFFFF;
        int writer = block.get(1);
        BigInteger time = BigInteger.valueOf(block.getLong(4));
        if (block.get(0) != 90 || writer < 0 || writer > 3 || time.signum() < 0 || n > 238
                || block.getInt(252) != sum(block.array())) {
            throw new Broken();
        }
        List<Line> found = new ArrayList<>();
        Map<Integer, List<Object>> lasts = new HashMap<>();
        ByteBuffer in = ByteBuffer.wrap(block.array(), 14, n);
        while (in.hasRemaining()) {
            BigInteger site = var(in);
            if (site.compareTo(BigInteger.valueOf(sites.size())) >= 0) {
                throw new Broken();
            }
            time = time.add(var(in));
            if (time.bitLength() > 63) {
                throw new Broken();
            }
            List<String> kinds = kinds(sites.get(site.intValue()));
            List<Object> last = lasts.get(site.intValue());
            List<Object> values = new ArrayList<>();
            for (int k = 0; k < kinds.size(); k++) {
                values.add(value(in, kinds.get(k), last == null ? Integer.valueOf(0) : last.get(k)));
            }
            lasts.put(site.intValue(), values);
            found.add(new Line(time.longValue(), writer, place + found.size(), site.intValue(), values));
        }
        return found;
    }

    int open() {
        lines = new ArrayList<>();
        broken = file.length % 256 == 0 ? 0 : 1;
        for (int from = 0; from + 256 <= file.length; from += 256) {
            try {
                lines.addAll(readBlock(ByteBuffer.wrap(Arrays.copyOfRange(file, from, from + 256)), from));
            } catch (Broken e) {
                broken++;
            }
        }
        lines.sort(Comparator.comparingLong(Line::time).thenComparingInt(Line::writer).thenComparingInt(Line::place));
        return lines.size();
    }

    int broken() {
        return broken;
    }

    /** No call of the face: for a test that asks for lines that there are. */
    int lineCount() {
        return lines.size();
    }

    private Line line(int line) {
        if (line < 0 || line >= lines.size()) {
            throw new NoSuchElementException();
        }
        return lines.get(line);
    }

    long time(int line) {
        return line(line).time();
    }

    int about(int line, int what) {
        Line l = line(line);
        if (what < -2 || what > 5) {
            throw new IndexOutOfBoundsException();
        }
        if (what < 0) {
            return what == -2 ? l.writer() : l.site();
        }
        if (what >= l.values().size()) {
            throw new NoSuchElementException();
        }
        return l.values().get(what) instanceof String s ? s.length() : (Integer) l.values().get(what);
    }

    private String shown(String kind, Object value) {
        if (value instanceof String s) {
            return s;
        }
        int x = (Integer) value;
        switch (kind.charAt(0)) {
            case 'u':
                return Integer.toUnsignedString(x);
            case 'x':
                return Integer.toHexString(x);
            case 'f':
                return java.math.BigDecimal.valueOf(x, kind.charAt(1) - '0').toPlainString();
            case 'e':
                return x < 0 || x > 31 ? "" + x : names.getOrDefault(100 * (kind.charAt(1) - '0') + x, "" + x);
            default:
                return "" + x;
        }
    }

    private String print(Line line) {
        Matcher m = Pattern.compile("\\{\\{|\\}\\}|" + SLOT.pattern()).matcher(sites.get(line.site()));
        List<String> kinds = kinds(sites.get(line.site()));
        int[] slot = {0};
        return m.replaceAll(r -> {
            String found = r.group();
            String by = found.equals("{{") ? "{" : found.equals("}}") ? "}"
                    : shown(kinds.get(slot[0]), line.values().get(slot[0]++));
            return Matcher.quoteReplacement(by);
        });
    }

    int length(int line) {
        return print(line(line)).length();
    }

    int letter(int line, int i) {
        String s = print(line(line));
        if (i < 0 || i >= s.length()) {
            throw new IndexOutOfBoundsException();
        }
        return s.charAt(i);
    }

    private static boolean numberHolds(Line line, int slot, Predicate<Integer> holds) {
        return slot >= 0 && slot < line.values().size() && line.values().get(slot) instanceof Integer x && holds.test(x);
    }

    private int term(Predicate<Line> term) {
        if (terms.size() == 4) {
            throw new UnsupportedOperationException();
        }
        terms.add(term);
        return terms.size();
    }

    int where(int kind, int a, int b) {
        switch (kind) {
            case 0:
                return term(l -> l.site() == a);
            case 1:
                return term(l -> l.writer() == a);
            case 2:
                return term(l -> numberHolds(l, a, x -> x >= b));
            case 3:
                return term(l -> numberHolds(l, a, x -> x <= b));
            default:
                throw new IllegalArgumentException();
        }
    }

    int search() {
        String s = take();
        if (s.isEmpty() || s.length() > 24) {
            throw new IllegalArgumentException();
        }
        return term(l -> print(l).contains(s));
    }

    int clear() {
        int n = terms.size();
        terms.clear();
        return n;
    }

    private boolean holds(Line line) {
        return terms.stream().allMatch(t -> t.test(line));
    }

    int find(int from) {
        for (int k = 0; k < lines.size(); k++) {
            if (k >= from && holds(lines.get(k))) {
                return k;
            }
        }
        return -1;
    }

    int count() {
        return (int) lines.stream().filter(this::holds).count();
    }

    int distinct(int slot) {
        if (slot < 0 || slot > 5) {
            throw new IndexOutOfBoundsException();
        }
        Set<Object> found = new HashSet<>();
        for (Line l : lines) {
            if (holds(l) && numberHolds(l, slot, x -> true)) {
                found.add(l.values().get(slot));
            }
        }
        return found.size();
    }
}
