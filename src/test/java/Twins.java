import java.util.function.Supplier;

/** Two objects with the same past, of which one refuses a call: after that both answer alike, whatever they are asked. */
final class Twins {
    interface Deed {
        void to(EventLog x);
    }

    private static final Deed NOTHING = x -> { };
    private static final int SLICE = 250;
    private static final String[] PROBES = {
        "lines", "query", "text", "text's bytes", "arguments", "arguments of 0", "arguments of 1", "arguments of 3", "writers", "durable",
        "sites", "names"};

    private final Check check;
    private final Deed past;

    Twins(Check check, Deed past) {
        this.check = check;
        this.past = past;
    }

    /** The call throws that, and changes nothing. */
    void refuse(String what, Class<? extends RuntimeException> due, Deed call) {
        refuseAfter(what, NOTHING, due, call);
    }

    /** What was done before it, to the one that is asked alone, is taken by the call, which throws that and changes nothing else. */
    void refuseAfter(String what, Deed before, Class<? extends RuntimeException> due, Deed call) {
        compare(what, x -> {
            before.to(x);
            check.fails(what, due, () -> call.to(x));
        });
    }

    /** What is done to the one that is asked alone leaves it as it was. */
    void compare(String what, Deed asked) {
        EventLog sized = new EventLog();
        past.to(sized);
        int size = sized.size();
        for (int from = 0; from == 0 || from < size; from += SLICE) {
            int start = from;
            both(what, "bytes from " + from, asked, x -> bytes(x, start));
        }
        for (String probe : PROBES) {
            both(what, probe, asked, x -> probed(x, probe));
        }
    }

    private interface Question {
        String of(EventLog x);
    }

    private void both(String what, String probe, Deed asked, Question question) {
        EventLog one = new EventLog();
        EventLog other = new EventLog();
        past.to(one);
        past.to(other);
        asked.to(one);
        check.same(what + " changed the " + probe, question.of(one), question.of(other));
    }

    private static String answer(Supplier<Object> call) {
        try {
            return call.get() + " ";
        } catch (RuntimeException e) {
            return e.getClass().getSimpleName() + " ";
        }
    }

    private static String bytes(EventLog x, int from) {
        int size = x.size();
        StringBuilder s = new StringBuilder("size " + size + ": ");
        for (int i = from; i < from + SLICE && i < size; i++) {
            s.append(x.byteOf(i)).append(' ');
        }
        return s.toString();
    }

    private static String probed(EventLog x, String probe) {
        return switch (probe) {
            case "lines" -> lines(x);
            case "query" -> query(x);
            case "text" -> "" + Check.typed(x);
            case "text's bytes" -> textsBytes(x);
            case "arguments" -> arguments(x);
            case "arguments of 0" -> argumentsOf(x, 0);
            case "arguments of 1" -> argumentsOf(x, 1);
            case "arguments of 3" -> argumentsOf(x, 3);
            case "writers" -> writers(x);
            case "durable" -> answer(() -> x.crash(0)) + answer(x::size);
            case "sites" -> sites(x);
            default -> names(x);
        };
    }

    private static String lines(EventLog x) {
        StringBuilder s = new StringBuilder(answer(x::broken));
        for (int k = 0; k < 6; k++) {
            int line = k;
            s.append(answer(() -> x.time(line)));
            for (int w = -2; w < 6; w++) {
                int what = w;
                s.append(answer(() -> x.about(line, what)));
            }
            s.append(answer(() -> x.length(line))).append(answer(() -> x.letter(line, 0))).append(answer(() -> x.letter(line, 1)));
        }
        return s.toString();
    }

    private static String query(EventLog x) {
        StringBuilder s = new StringBuilder();
        for (int round = 0; round < 2; round++) {
            s.append(answer(x::count));
            for (int k = 0; k < 6; k++) {
                int n = k;
                s.append(answer(() -> x.find(n))).append(answer(() -> x.distinct(n)));
            }
            s.append(answer(() -> x.where(1, 0, 0))).append(answer(x::count)).append(answer(x::clear));
        }
        return s.toString();
    }

    private static String textsBytes(EventLog x) {
        String site = answer(x::site);
        x.clear();
        return site + answer(x::site) + answer(x::search);
    }

    private static String arguments(EventLog x) {
        StringBuilder s = new StringBuilder();
        for (int k = 0; k < 7; k++) {
            int n = k;
            s.append(answer(() -> x.arg(n)));
        }
        return s.toString();
    }

    /** The arguments are seen by an event of that site, if they are of its slots' kinds. */
    private static String argumentsOf(EventLog x, int site) {
        x.rotate();
        String logged = answer(() -> x.log(0, site, 0)) + answer(() -> x.flush(0)) + answer(x::open);
        return logged + answer(() -> Check.line(x, 0));
    }

    private static String writers(EventLog x) {
        StringBuilder s = new StringBuilder();
        for (int w = 0; w < 4; w++) {
            int writer = w;
            for (long t : new long[] {9, 10, 19, 20, 29, 30, 1000}) {
                s.append(answer(() -> Check.log(x, writer, 0, t, 7)));
            }
            int from = x.size();
            s.append(answer(() -> x.flush(writer)));
            if (x.size() > from) {
                s.append(Check.file(x, from, from + 16)).append(Check.file(x, from + 252, from + 256));
            }
        }
        return s + answer(x::open) + answer(x::broken);
    }

    private static String sites(EventLog x) {
        StringBuilder s = new StringBuilder(answer(x::site));
        for (String format : new String[] {"a{d}{u}b{x}c", "{d}", "", "{e4}{e5}{e6}{e7}", "{", "{d}"}) {
            s.append(answer(() -> Check.site(x, format)));
        }
        x.rotate();
        answer(() -> x.log(0, 0, 0));
        for (int site = 6; site < 9; site++) {
            int origin = site;
            s.append(answer(() -> Check.log(x, 0, origin, 0, 1234567, 1234567, 1234567)));
        }
        return s + answer(() -> x.flush(0)) + answer(x::open) + answer(() -> Check.line(x, 0));
    }

    /** Codes of all tables, by the pasts' sites 4 and 5. */
    private static String names(EventLog x) {
        x.rotate();
        answer(() -> x.log(0, 0, 0));
        answer(x::site);
        for (int code : new int[] {0, 1, 5, 30, 31}) {
            Check.log(x, 0, 4, 0, code, code, code, code);
            Check.log(x, 0, 5, 0, code, code, code, code);
        }
        x.flush(0);
        StringBuilder s = new StringBuilder(answer(x::open));
        for (int k = 0; k < 10; k++) {
            s.append(Check.line(x, k)).append(' ');
        }
        return s.toString();
    }
}
