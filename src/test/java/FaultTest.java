import java.util.ArrayList;
import java.util.Collections;
import java.util.List;

/** The faults of a format as the document declares them, all at once and the first one taken, for all short texts of the signs that matter. */
public final class FaultTest {
    private static final Check check = new Check("FaultTest");
    private static final String FIVE = "{d}{u}{x}{t}{f1}";
    private static final String SIX = FIVE + "{e0}";
    private static final List<String> SLOTS = new ArrayList<>(List.of("{d}", "{u}", "{x}", "{t}"));
    /** What may stand where a { stands. */
    private static final List<String> OPENED = new ArrayList<>();

    private static EventLog log = new EventLog();
    private static int calls = 0;

    public static void main(String[] args) {
        for (int k = 0; k <= 7; k++) {
            SLOTS.add("{e" + k + "}");
        }
        for (int k = 1; k <= 6; k++) {
            SLOTS.add("{f" + k + "}");
        }
        OPENED.addAll(SLOTS);
        OPENED.add("{{");
        all("", "{}dfe017", 5);
        all(FIVE, "{}df1 ", 5);
        all(SIX, "{}df\177", 5);
        for (int n = 74; n <= 80; n++) {
            all("y".repeat(n), "{}f1", 4);
            all(FIVE + "y".repeat(n - FIVE.length()), "{}d", 5);
            all(SIX + "y".repeat(n - SIX.length()), "{}d", 5);
        }
        everyByte();
        check.end();
    }

    /** The text, and the text with up to so many of these signs behind it. */
    private static void all(String text, String signs, int more) {
        look(text);
        for (int k = 0; k < signs.length() && more > 0; k++) {
            all(text + signs.charAt(k), signs, more - 1);
        }
    }

    private static void everyByte() {
        for (int b = 0; b < 256; b++) {
            for (String before : List.of("", "a", "{", "}", "{d", "{f", "{f3", "{e", "{d}", "{{", SIX, SIX + "{")) {
                look(before + (char) b);
                look(before + (char) b + "}");
            }
        }
    }

    private static void look(String text) {
        check.same("the fault of " + text, faultAnswered(text), firstFault(text));
    }

    /** The place that site() tells, -1 for a format that is right. */
    private static int faultAnswered(String text) {
        calls += 2 + text.length() / 8;
        if (calls > 512) {
            log = new EventLog();
            calls = 2 + text.length() / 8;
        }
        try {
            int answer = Check.site(log, text);
            return answer < 0 ? -answer - 1 : -1;
        } catch (UnsupportedOperationException e) {
            return -1;
        }
    }

    private static int firstFault(String text) {
        List<Integer> faults = new ArrayList<>();
        for (int i = 0; i < text.length(); i++) {
            if (text.charAt(i) < 32 || text.charAt(i) > 126 || i == 80) {
                faults.add(i);
            }
        }
        int slots = 0;
        int i = 0;
        while (i < text.length() && !partAt(text, i).isEmpty()) {
            String part = partAt(text, i);
            if (SLOTS.contains(part)) {
                slots++;
                if (slots > 6) {
                    faults.add(i);
                }
            }
            i += part.length();
        }
        if (i < text.length()) {
            faults.add(faultOfPart(text, i));
            if (text.charAt(i) == '{' && slots >= 6) {
                faults.add(i);
            }
        }
        return faults.isEmpty() ? -1 : Collections.min(faults);
    }

    /** What stands there that is whole: a slot, a doubled brace, or one byte; nothing otherwise. */
    private static String partAt(String text, int i) {
        for (String part : OPENED) {
            if (text.startsWith(part, i)) {
                return part;
            }
        }
        if (text.startsWith("}}", i)) {
            return "}}";
        }
        char c = text.charAt(i);
        return c == '{' || c == '}' ? "" : "" + c;
    }

    /** Of a brace with which nothing whole begins: where it is seen. */
    private static int faultOfPart(String text, int i) {
        if (text.charAt(i) == '}') {
            return i + 1;
        }
        for (int end = i + 1; end <= text.length(); end++) {
            String begun = text.substring(i, end);
            if (OPENED.stream().noneMatch(part -> part.startsWith(begun))) {
                return end - 1;
            }
        }
        return text.length();
    }
}
