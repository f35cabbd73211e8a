import java.lang.reflect.Method;
import java.lang.reflect.Modifier;
import java.util.Map;
import java.util.Random;
import java.util.TreeMap;
import java.util.function.Supplier;

/** Runs of chosen and of chance calls, on the program and on the model, whose answers must be the same. */
public final class ModelTest {
    private static final int RUNS = 6000;
    private static final int CALLS = 512;
    /** How often a call has answered, or thrown which exception, in all runs. */
    private static final Map<String, Integer> OUTCOMES = new TreeMap<>();
    private static final String[] PARTS = {
        "{d}", "{u}", "{x}", "{f1}", "{f2}", "{f3}", "{f6}", "{e0}", "{e1}", "{e7}", "{t}", "{t}", "{d}", "{{", "}}", "a", "b=", " ", "~"};
    private static final String[] WRONG = {"{", "}", "{f0}", "{f7}", "{e8}", "{q}", "{}", "\177", "\37", "\200", "{dd", "{f1", "{t }"};
    private static final int[] NUMBERS = {
        0, 0, 0, 1, -1, 2, 5, 7, 31, 32, 59, 60, 61, -59, -60, -61, 120, 121, 127, 128, 255, 256, 1000, -1000,
        Integer.MAX_VALUE, Integer.MIN_VALUE, Integer.MAX_VALUE - 30, Integer.MIN_VALUE + 30, 123456789, -123456789};

    private final Random random;
    private final EventLog program = new EventLog();
    private final Model model = new Model();
    private final Check check;
    private final int run;
    private int calls = 0;
    private int sites = 0;
    private final String[] formats = new String[40];
    private long clock = 0;

    private ModelTest(Check check, int run) {
        this.check = check;
        this.run = run;
        random = new Random(run);
    }

    public static void main(String[] args) {
        Check check = new Check("ModelTest");
        int runs = args.length > 0 ? Integer.parseInt(args[0]) : RUNS;
        for (int run = 0; run < runs; run++) {
            new ModelTest(check, run).go();
        }
        everyOutcomeWasReached(check);
        check.end();
    }

    /** Chance that never comes to an outcome says nothing about it. */
    private static void everyOutcomeWasReached(Check check) {
        for (Method m : EventLog.class.getDeclaredMethods()) {
            if (!Modifier.isPublic(m.getModifiers())) {
                continue;
            }
            check.same(m.getName() + " answers ten times at least", timesOf(m.getName() + " answers") >= 10, true);
            for (Class<?> e : m.getExceptionTypes()) {
                String outcome = m.getName() + " " + e.getSimpleName();
                check.same(outcome + " comes ten times at least", timesOf(outcome) >= 10, true);
            }
        }
    }

    private static int timesOf(String outcome) {
        return OUTCOMES.getOrDefault(outcome, 0);
    }

    private static String outcome(Supplier<Object> call) {
        try {
            return String.valueOf(call.get());
        } catch (RuntimeException e) {
            return e.getClass().getSimpleName();
        }
    }

    private String both(String what, Supplier<Object> ofProgram, Supplier<Object> ofModel) {
        if (calls == CALLS) {
            return "";
        }
        calls++;
        String got = outcome(ofProgram);
        OUTCOMES.merge(what.split(" ")[0] + " " + (got.endsWith("Exception") ? got : "answers"), 1, Integer::sum);
        check.same("run " + run + " call " + calls + " " + what, got, outcome(ofModel));
        return got;
    }

    private int any(int n) {
        return random.nextInt(n);
    }

    private int number() {
        return any(4) == 0 ? random.nextInt() : any(2) == 0 ? any(9) - 4 : NUMBERS[any(NUMBERS.length)];
    }

    private void type(String s) {
        byte[] b = Check.bytes(s);
        for (int from = 0; from < b.length; from += 8) {
            int n = Math.min(8, b.length - from);
            long w = random.nextLong();
            for (int k = 0; k < n; k++) {
                w = w & ~(255L << (8 * k)) | (b[from + k] & 255L) << (8 * k);
            }
            long word = w;
            both("type " + s, () -> program.type(word, n), () -> model.type(word, n));
        }
    }

    private String format() {
        StringBuilder s = new StringBuilder();
        int n = any(9);
        for (int k = 0; k < n; k++) {
            s.append(any(60) == 0 ? WRONG[any(WRONG.length)] : PARTS[any(PARTS.length)]);
        }
        if (any(12) == 0) {
            int more = 70 + any(14);
            while (s.length() < more) {
                s.insert(any(4) == 0 ? s.length() : 0, any(3) == 0 ? "}}" : "x");
            }
        }
        return s.toString();
    }

    private void addSite() {
        addSite(format());
    }

    private String addSite(String s) {
        type(s);
        String got = both("site " + s, program::site, model::site);
        if (got.equals("" + sites) && sites < 40) {
            formats[sites] = s;
            sites++;
        }
        return got;
    }

    private String anyText(int most) {
        StringBuilder s = new StringBuilder();
        int n = any(most + 1);
        for (int k = 0; k < n; k++) {
            s.append((char) (any(3) == 0 ? any(256) : 'a' + any(3)));
        }
        return s.toString();
    }

    private void addName() {
        type(any(12) == 0 ? anyText(14) : "n" + any(1000));
        int table = any(15) == 0 ? any(12) - 2 : any(3) == 0 ? 7 : any(2);
        int code = any(15) == 0 ? any(40) - 4 : any(8);
        both("name " + table + " " + code, () -> {
            program.name(table, code);
            return "";
        }, () -> {
            model.name(table, code);
            return "";
        });
    }

    private void addArgument(boolean isText) {
        if (isText) {
            type(anyText(any(20) == 0 ? 18 : any(2) == 0 ? 16 : 3));
            both("text", program::text, model::text);
        } else {
            int x = number();
            both("arg " + x, () -> program.arg(x), () -> model.arg(x));
        }
    }

    private void log() {
        int site = any(60) == 0 || sites == 0 ? any(44) - 2 : any(2) == 0 ? any(Math.min(sites, 2)) : any(sites);
        if (site >= 0 && site < sites) {
            String s = formats[site].replace("{{", "__");
            for (int i = s.indexOf('{'); i >= 0; i = s.indexOf('{', i + 1)) {
                boolean isText = s.charAt(i + 1) == 't';
                if (any(200) != 0) {
                    addArgument(any(200) == 0 ? !isText : isText);
                }
            }
        }
        clock += any(3) == 0 ? 0 : any(60) == 0 ? 1L << any(50) : any(40) == 0 ? -any(5) : any(200);
        if (any(2000) == 0) {
            clock = Long.MAX_VALUE - any(2);
        }
        long time = clock;
        int writer = any(100) == 0 ? any(8) - 2 : any(3) == 0 ? any(4) : 1;
        both("log " + writer + " " + site + " " + time, () -> program.log(writer, site, time), () -> model.log(writer, site, time));
    }

    private void flush() {
        int writer = any(30) == 0 ? any(8) - 2 : any(3) == 0 ? any(4) : 1;
        both("flush " + writer, () -> program.flush(writer), () -> model.flush(writer));
    }

    private void damage() {
        int size = model.size();
        int i = any(20) == 0 || size == 0 ? any(size + 4) - 2 : any(size);
        int b = any(4) == 0 ? random.nextInt() : any(2) == 0 ? NUMBERS[any(NUMBERS.length)] : any(4);
        damage(i, b);
    }

    private void damage(int i, int b) {
        both("damage " + i + " " + b, () -> {
            program.damage(i, b);
            return "";
        }, () -> {
            model.damage(i, b);
            return "";
        });
    }

    /** Damage that the sum does not show. */
    private void damageAndMend() {
        int blocks = model.size() / 256;
        if (blocks == 0) {
            return;
        }
        int from = 256 * any(blocks);
        int hits = 1 + any(3);
        for (int k = 0; k < hits; k++) {
            int n = model.byteOf(from + 13);
            int at = any(5) == 0 ? any(14) : any(12) == 0 ? 13 : 14 + any(Math.max(1, Math.min(n, 238)));
            int old = model.byteOf(from + at);
            int b = any(3) == 0 ? old + any(3) - 1 : any(2) == 0 ? any(256) : NUMBERS[any(NUMBERS.length)];
            damage(from + at, b);
        }
        int s = 0;
        for (int k = 0; k < 252; k++) {
            s = s * 31 + model.byteOf(from + k);
        }
        for (int k = 0; k < 4; k++) {
            if (model.byteOf(from + 252 + k) != (s >>> (24 - 8 * k) & 255)) {
                damage(from + 252 + k, s >>> (24 - 8 * k));
            }
        }
        open();
    }

    private void open() {
        both("open", program::open, model::open);
        both("broken", program::broken, model::broken);
    }

    private int anyLine() {
        int n = model.lineCount();
        return any(15) == 0 || n == 0 ? any(n + 4) - 2 : any(n);
    }

    private void askLine() {
        int line = anyLine();
        int what = any(10) == 0 ? any(12) - 4 : any(8) - 2;
        int i = any(30) - 1;
        switch (any(4)) {
            case 0 -> both("time " + line, () -> program.time(line), () -> model.time(line));
            case 1 -> both("about " + line + " " + what, () -> program.about(line, what), () -> model.about(line, what));
            case 2 -> both("length " + line, () -> program.length(line), () -> model.length(line));
            default -> both("letter " + line + " " + i, () -> program.letter(line, i), () -> model.letter(line, i));
        }
    }

    private void addTerm() {
        if (any(3) == 0) {
            type(any(10) == 0 ? anyText(30) : any(2) == 0 ? "" + any(20) : String.valueOf("ab=n-.0x ".charAt(any(9))));
            both("search", program::search, model::search);
            return;
        }
        int kind = any(20) == 0 ? any(8) - 2 : any(4);
        int a = any(20) == 0 ? any(12) - 3 : any(3);
        int b = number();
        both("where " + kind + " " + a + " " + b, () -> program.where(kind, a, b), () -> model.where(kind, a, b));
    }

    private void query() {
        int slot = any(20) == 0 ? any(10) - 2 : any(4);
        int from = any(4) == 0 ? any(80) - 10 : 0;
        switch (any(3)) {
            case 0 -> both("find " + from, () -> program.find(from), () -> model.find(from));
            case 1 -> both("count", program::count, model::count);
            default -> both("distinct " + slot, () -> program.distinct(slot), () -> model.distinct(slot));
        }
    }

    private void askFile() {
        int i = any(model.size() + 4) - 2;
        both("size", program::size, model::size);
        both("byteOf " + i, () -> program.byteOf(i), () -> model.byteOf(i));
    }

    private void newFile() {
        if (any(2) == 0) {
            int n = any(4) == 0 ? any(5) - 2 : any(3) == 0 ? Integer.MAX_VALUE - any(2) : any(700);
            both("crash " + n, () -> program.crash(n), () -> model.crash(n));
            open();
        }
        if (any(3) != 0) {
            both("rotate", () -> {
                program.rotate();
                return "";
            }, () -> {
                model.rotate();
                return "";
            });
            clock = any(2) == 0 ? 0 : clock;
        }
    }

    private void oddCall() {
        switch (any(4)) {
            case 0 -> addArgument(any(2) == 0);
            case 1 -> {
                int n = any(12) - 2;
                long w = random.nextLong();
                both("type " + w + " " + n, () -> program.type(w, n), () -> model.type(w, n));
            }
            case 2 -> both("clear", program::clear, model::clear);
            default -> type(anyText(40));
        }
    }

    /** A block for each event, so that the file has no room, or nearly none, long before the calls end. */
    private void fillFile() {
        int full = Integer.parseInt(addSite("full"));
        int n = 20 + any(6);
        for (int k = 0; k < n; k++) {
            int writer = any(4);
            long time = clock;
            both("log " + writer + " full", () -> program.log(writer, full, time), () -> model.log(writer, full, time));
            both("flush " + writer, () -> program.flush(writer), () -> model.flush(writer));
            clock += any(2);
        }
    }

    private void go() {
        int kind = run % 5;
        int first = kind == 0 ? 45 : 1 + any(6);
        for (int k = 0; k < first; k++) {
            addSite();
        }
        if (kind == 4) {
            fillFile();
        }
        while (calls < CALLS) {
            int r = any(1000);
            if (r < 500) {
                log();
            } else if (r < 540) {
                flush();
            } else if (r < 560) {
                addName();
            } else if (r < 570) {
                damage();
            } else if (r < (kind == 1 ? 660 : 575)) {
                damageAndMend();
            } else if (r < 690) {
                open();
            } else if (r < 820) {
                askLine();
            } else if (r < 850) {
                addTerm();
            } else if (r < 900) {
                query();
            } else if (r < 930) {
                askFile();
            } else if (r < (kind == 2 ? 960 : 934)) {
                newFile();
            } else if (r < 965) {
                both("clear", program::clear, model::clear);
            } else if (r < 980) {
                addSite();
            } else {
                oddCall();
            }
        }
    }
}
