import java.util.ArrayList;
import java.util.Arrays;
import java.util.NoSuchElementException;

/**
 * An event log that costs little where events happen: sites have a format, told once; an event is
 * packed into its writer's block; blocks go to a file; a reader unpacks what is whole of it, merges
 * the writers by time, prints each event by its format, and answers queries.
 */
public final class EventLog {
    private static final int TYPED_MOST = 200;
    private static final int FORMAT_MOST = 80;
    private static final int SITES_MOST = 40;
    private static final int SLOTS_MOST = 6;
    private static final int TABLES = 8;
    private static final int CODES = 32;
    private static final int NAME_MOST = 12;
    private static final int TEXT_MOST = 16;
    private static final int WRITERS = 4;
    private static final int BLOCK_BYTES = 256;
    private static final int EVENTS_MOST = 238;
    private static final int BLOCKS_MOST = 24;
    private static final int VAR_MOST = 9;
    private static final int TERMS_MOST = 4;
    private static final int SEARCH_MOST = 24;

    /** Where the parts of a block begin. */
    private static final int WRITER_AT = 1;
    private static final int TIME_AT = 4;
    private static final int COUNT_AT = 12;
    private static final int EVENTS_AT = 14;
    private static final int SUM_AT = 252;
    private static final int BLOCK_MARK = 90;

    /** How a number begins that is packed: by its difference from the last one, or by itself. */
    private static final int STEP_MOST = 60;
    private static final int STEP_NONE = 64;
    private static final int NUMBER_ITSELF = 255;

    private Row typed = new Row(TYPED_MOST);
    private Row typedBefore = new Row(TYPED_MOST);
    private Event arguments = new Event();
    private Event argumentsBefore = new Event();
    private Format draft = new Format();
    private final ArrayList<Format> sites = new ArrayList<>();
    private final Block[] blocks = new Block[WRITERS];
    private final Row packed = new Row(2 * VAR_MOST + SLOTS_MOST * (1 + TEXT_MOST));
    private final LogFile file = new LogFile();
    private final Lines lines = new Lines();
    private final Printer printer = new Printer();
    private final Query query = new Query();
    private final NumberSet numbers = new NumberSet();

    public EventLog() {
        for (int w = 0; w < WRITERS; w++) {
            blocks[w] = new Block(w);
        }
    }

    public boolean type(long w, int n) {
        if (n < 1 || n > 8 || n > typed.room()) {
            return false;
        }
        for (int k = 0; k < n; k++) {
            typed.put((int) (w >>> (8 * k)));
        }
        return true;
    }

    public int site() throws UnsupportedOperationException {
        Row taken = takeTyped();
        int fault = draft.faultIn(taken);
        if (fault >= 0) {
            return -fault - 1;
        }
        for (int k = 0; k < sites.size(); k++) {
            if (sites.get(k).isSpelled(taken)) {
                return k;
            }
        }
        if (sites.size() >= SITES_MOST) {
            throw new UnsupportedOperationException();
        }
        sites.add(draft);
        draft = new Format();
        return sites.size() - 1;
    }

    public void name(int table, int code) throws NoSuchElementException, IllegalArgumentException {
        Row taken = takeTyped();
        if (!Names.has(table, code)) {
            throw new NoSuchElementException();
        }
        if (taken.held() < 1 || taken.held() > NAME_MOST || !taken.isPrintable()) {
            throw new IllegalArgumentException();
        }
        printer.giveName(table, code, taken);
    }

    public int arg(int x) throws UnsupportedOperationException {
        if (arguments.isFull()) {
            throw new UnsupportedOperationException();
        }
        arguments.addNumber(x);
        return arguments.held();
    }

    public int text() throws IllegalArgumentException, UnsupportedOperationException {
        Row taken = takeTyped();
        if (taken.held() > TEXT_MOST) {
            throw new IllegalArgumentException();
        }
        if (arguments.isFull()) {
            throw new UnsupportedOperationException();
        }
        arguments.addText(taken, 0, taken.held());
        return arguments.held();
    }

    public int log(int writer, int site, long time)
            throws NoSuchElementException, IllegalStateException, IllegalArgumentException, UnsupportedOperationException {
        Event event = takeArguments();
        if (!isWriter(writer) || site < 0 || site >= sites.size()) {
            throw new NoSuchElementException();
        }
        if (file.isCut()) {
            throw new IllegalStateException();
        }
        Block block = blocks[writer];
        if (!sites.get(site).fits(event) || time < 0 || time < block.lastTime()) {
            throw new IllegalArgumentException();
        }
        event.happens(writer, site, time);
        block.pack(event, packed);
        if (packed.held() > block.room()) {
            if (file.isFull()) {
                throw new UnsupportedOperationException();
            }
            block.moveTo(file);
            block.pack(event, packed);
        }
        block.append(event, packed);
        return block.held();
    }

    public int flush(int writer) throws NoSuchElementException, IllegalStateException, UnsupportedOperationException {
        if (!isWriter(writer)) {
            throw new NoSuchElementException();
        }
        if (file.isCut()) {
            throw new IllegalStateException();
        }
        Block block = blocks[writer];
        if (block.held() > 0) {
            if (file.isFull()) {
                throw new UnsupportedOperationException();
            }
            block.moveTo(file);
        }
        file.makeDurable();
        return file.held() / BLOCK_BYTES;
    }

    public void rotate() {
        file.begin();
        for (int w = 0; w < WRITERS; w++) {
            blocks[w].beginFile();
        }
    }

    public int crash(int n) throws IllegalArgumentException, IllegalStateException {
        if (n < 0) {
            throw new IllegalArgumentException();
        }
        if (file.isCut()) {
            throw new IllegalStateException();
        }
        for (int w = 0; w < WRITERS; w++) {
            blocks[w].beginBlock();
        }
        file.cutBehind(n);
        return file.held();
    }

    public int size() {
        return file.held();
    }

    public int byteOf(int i) throws IndexOutOfBoundsException {
        if (i < 0 || i >= file.held()) {
            throw new IndexOutOfBoundsException();
        }
        return file.row().at(i);
    }

    public void damage(int i, int b) throws IndexOutOfBoundsException {
        if (i < 0 || i >= file.held()) {
            throw new IndexOutOfBoundsException();
        }
        file.row().set(i, b);
    }

    public int open() {
        lines.read(file.row(), sites);
        return lines.held();
    }

    public int broken() {
        return lines.brokenParts();
    }

    public long time(int line) throws NoSuchElementException {
        return lineOf(line).when();
    }

    public int about(int line, int what) throws NoSuchElementException, IndexOutOfBoundsException {
        Event event = lineOf(line);
        if (what < -2 || what >= SLOTS_MOST) {
            throw new IndexOutOfBoundsException();
        }
        if (what == -2) {
            return event.writer();
        }
        if (what == -1) {
            return event.origin();
        }
        if (what >= event.held()) {
            throw new NoSuchElementException();
        }
        return event.numberAt(what);
    }

    public int length(int line) throws NoSuchElementException {
        Event event = lineOf(line);
        return printer.print(event, formatOf(event)).held();
    }

    public int letter(int line, int i) throws NoSuchElementException, IndexOutOfBoundsException {
        Event event = lineOf(line);
        Row printed = printer.print(event, formatOf(event));
        if (i < 0 || i >= printed.held()) {
            throw new IndexOutOfBoundsException();
        }
        return printed.at(i);
    }

    public int where(int kind, int a, int b) throws IllegalArgumentException, UnsupportedOperationException {
        if (kind < Query.SITE_IS || kind > Query.NOT_ABOVE) {
            throw new IllegalArgumentException();
        }
        if (query.isFull()) {
            throw new UnsupportedOperationException();
        }
        query.addTerm(kind, a, b);
        return query.held();
    }

    public int search() throws IllegalArgumentException, UnsupportedOperationException {
        Row taken = takeTyped();
        if (taken.held() < 1 || taken.held() > SEARCH_MOST) {
            throw new IllegalArgumentException();
        }
        if (query.isFull()) {
            throw new UnsupportedOperationException();
        }
        query.addSearch(taken);
        return query.held();
    }

    public int clear() {
        int had = query.held();
        query.begin();
        return had;
    }

    public int find(int from) {
        for (int k = Math.max(from, 0); k < lines.held(); k++) {
            Event line = lines.at(k);
            if (query.holds(line, formatOf(line), printer)) {
                return k;
            }
        }
        return -1;
    }

    public int count() {
        int n = 0;
        for (int k = 0; k < lines.held(); k++) {
            Event line = lines.at(k);
            if (query.holds(line, formatOf(line), printer)) {
                n++;
            }
        }
        return n;
    }

    public int distinct(int slot) throws IndexOutOfBoundsException {
        if (slot < 0 || slot >= SLOTS_MOST) {
            throw new IndexOutOfBoundsException();
        }
        numbers.begin(lines.held());
        for (int k = 0; k < lines.held(); k++) {
            Event line = lines.at(k);
            if (line.hasNumber(slot) && query.holds(line, formatOf(line), printer)) {
                numbers.add(line.numberAt(slot));
            }
        }
        return numbers.held();
    }

    private static boolean isWriter(int writer) {
        return writer >= 0 && writer < WRITERS;
    }

    private Event lineOf(int line) {
        if (line < 0 || line >= lines.held()) {
            throw new NoSuchElementException();
        }
        return lines.at(line);
    }

    /** A line's site was there when the line was read, and sites do not go away: it is never the draft. */
    private Format formatOf(Event line) {
        int site = line.origin();
        return site >= 0 && site < sites.size() ? sites.get(site) : draft;
    }

    /** The two rows change places, so that the text is empty whatever the caller answers or throws. */
    private Row takeTyped() {
        Row taken = typed;
        typed = typedBefore;
        typedBefore = taken;
        typed.begin();
        return taken;
    }

    private Event takeArguments() {
        Event taken = arguments;
        arguments = argumentsBefore;
        argumentsBefore = taken;
        arguments.begin();
        return taken;
    }

    /** A row of bytes 0 .. 255 with a bound, made once and used again. */
    private static final class Row {
        private final byte[] bytes;
        private int used;

        Row(int most) {
            bytes = new byte[most];
        }

        void begin() {
            used = 0;
        }

        int held() {
            return used;
        }

        int room() {
            return bytes.length - used;
        }

        int at(int i) {
            return i >= 0 && i < used ? bytes[i] & 255 : 0;
        }

        void set(int i, int b) {
            if (i >= 0 && i < used) {
                bytes[i] = (byte) b;
            }
        }

        void put(int b) {
            if (used < bytes.length) {
                bytes[used] = (byte) b;
                used++;
            }
        }

        void putRow(Row other) {
            for (int k = 0; k < other.used; k++) {
                put(other.bytes[k]);
            }
        }

        void putZeros(int n) {
            for (int k = 0; k < n; k++) {
                put(0);
            }
        }

        /** The n lowest bytes of x, the highest first. */
        void putBig(long x, int n) {
            for (int k = n - 1; k >= 0; k--) {
                put((int) (x >>> (8 * k)));
            }
        }

        long bigAt(int from, int n) {
            long x = 0;
            for (int k = 0; k < n; k++) {
                x = (x << 8) | at(from + k);
            }
            return x;
        }

        void putVar(long x) {
            long rest = x;
            for (int k = 1; k < VAR_MOST && rest > 127; k++) {
                put((int) (rest & 127) | 128);
                rest >>>= 7;
            }
            put((int) rest);
        }

        void shorten(int n) {
            if (n >= 0 && n < used) {
                used = n;
            }
        }

        boolean isPrintable() {
            for (int k = 0; k < used; k++) {
                if (!isSign(at(k))) {
                    return false;
                }
            }
            return true;
        }

        static boolean isSign(int b) {
            return b >= 32 && b <= 126;
        }

        boolean isSameAs(Row other) {
            return used == other.used && standsAt(0, other);
        }

        boolean contains(Row part) {
            for (int from = 0; from + part.used <= used; from++) {
                if (standsAt(from, part)) {
                    return true;
                }
            }
            return false;
        }

        private boolean standsAt(int from, Row part) {
            for (int k = 0; k < part.used; k++) {
                if (at(from + k) != part.at(k)) {
                    return false;
                }
            }
            return true;
        }

        /** The sum of a block's bytes before its sum. */
        int sumOfBlock(int from) {
            int s = 0;
            for (int k = 0; k < SUM_AT; k++) {
                s = s * 31 + at(from + k);
            }
            return s;
        }
    }

    /** A format, read byte by byte into what is printed for it. */
    private static final class Format {
        private static final int OUTSIDE = 0;
        private static final int BEHIND_OPENING = 1;
        private static final int BEFORE_DIGIT = 2;
        private static final int BEFORE_CLOSING = 3;
        private static final int BEHIND_CLOSING = 4;

        private final Row spelling = new Row(FORMAT_MOST);
        /** A byte that is printed as it stands, or -1 less a slot's number. */
        private final int[] pieces = new int[FORMAT_MOST];
        private final int[] kinds = new int[SLOTS_MOST];
        private final int[] digits = new int[SLOTS_MOST];
        private int pieceCount;
        private int slots;
        private int state;

        /** The place of the first fault, -1 if there is none: then this is that format. */
        int faultIn(Row text) {
            spelling.begin();
            pieceCount = 0;
            slots = 0;
            state = OUTSIDE;
            for (int i = 0; i < text.held(); i++) {
                int b = text.at(i);
                if (i >= FORMAT_MOST || !Row.isSign(b) || opensOneTooMany(text, i) || !takes(b)) {
                    return i;
                }
                spelling.put(b);
            }
            return state == OUTSIDE ? -1 : text.held();
        }

        private boolean opensOneTooMany(Row text, int i) {
            return state == OUTSIDE && slots == SLOTS_MOST && text.at(i) == '{' && text.at(i + 1) != '{';
        }

        private boolean takes(int b) {
            switch (state) {
                case BEHIND_OPENING:
                    return takesBehindOpening(b);
                case BEFORE_DIGIT:
                    return takesDigit(b);
                case BEFORE_CLOSING:
                    return takesClosing(b);
                case BEHIND_CLOSING:
                    addPiece(b);
                    state = OUTSIDE;
                    return b == '}';
                default:
                    takeOutside(b);
                    return true;
            }
        }

        private void takeOutside(int b) {
            if (b == '{') {
                state = BEHIND_OPENING;
            } else if (b == '}') {
                state = BEHIND_CLOSING;
            } else {
                addPiece(b);
            }
        }

        private boolean takesBehindOpening(int b) {
            if (b == '{') {
                addPiece(b);
                state = OUTSIDE;
                return true;
            }
            if (slots >= SLOTS_MOST) {
                return false;
            }
            kinds[slots] = b;
            digits[slots] = 0;
            boolean hasDigit = b == 'f' || b == 'e';
            state = hasDigit ? BEFORE_DIGIT : BEFORE_CLOSING;
            return hasDigit || b == 'd' || b == 'u' || b == 'x' || b == 't';
        }

        private boolean takesDigit(int b) {
            if (slots >= SLOTS_MOST) {
                return false;
            }
            boolean isPoint = kinds[slots] == 'f';
            digits[slots] = b - '0';
            state = BEFORE_CLOSING;
            return isPoint ? b >= '1' && b <= '6' : b >= '0' && b <= '7';
        }

        private boolean takesClosing(int b) {
            addPiece(-1 - slots);
            slots++;
            state = OUTSIDE;
            return b == '}';
        }

        private void addPiece(int piece) {
            if (pieceCount < pieces.length) {
                pieces[pieceCount] = piece;
                pieceCount++;
            }
        }

        boolean isSpelled(Row text) {
            return spelling.isSameAs(text);
        }

        int pieceCount() {
            return pieceCount;
        }

        int pieceAt(int k) {
            return k >= 0 && k < pieceCount ? pieces[k] : 0;
        }

        int slots() {
            return slots;
        }

        int kindAt(int slot) {
            return slot >= 0 && slot < slots ? kinds[slot] : 0;
        }

        int digitAt(int slot) {
            return slot >= 0 && slot < slots ? digits[slot] : 0;
        }

        boolean isTextAt(int slot) {
            return kindAt(slot) == 't';
        }

        boolean fits(Event event) {
            if (event.held() != slots) {
                return false;
            }
            for (int k = 0; k < slots; k++) {
                if (event.hasNumber(k) == isTextAt(k)) {
                    return false;
                }
            }
            return true;
        }
    }

    /** The tables' names of codes. */
    private static final class Names {
        private final byte[] bytes = new byte[TABLES * CODES * NAME_MOST];
        private final int[] sizes = new int[TABLES * CODES];

        static boolean has(int table, int code) {
            return table >= 0 && table < TABLES && code >= 0 && code < CODES;
        }

        void give(int table, int code, Row given) {
            if (!has(table, code)) {
                return;
            }
            int at = table * CODES + code;
            sizes[at] = Math.min(given.held(), NAME_MOST);
            for (int k = 0; k < sizes[at]; k++) {
                bytes[at * NAME_MOST + k] = (byte) given.at(k);
            }
        }

        /** False, and nothing put, when the code has no name. */
        boolean putInto(Row out, int table, int code) {
            if (!has(table, code)) {
                return false;
            }
            int at = table * CODES + code;
            for (int k = 0; k < sizes[at]; k++) {
                out.put(bytes[at * NAME_MOST + k]);
            }
            return sizes[at] > 0;
        }
    }

    /** Numbers and texts in a row, as arguments and as an event that has happened. */
    private static final class Event {
        private final boolean[] isText = new boolean[SLOTS_MOST];
        private final int[] numbers = new int[SLOTS_MOST];
        private final byte[] texts = new byte[SLOTS_MOST * TEXT_MOST];
        private int used;
        private int writer;
        private int origin;
        private long when;

        void begin() {
            used = 0;
        }

        void happens(int byWriter, int atSite, long atTime) {
            writer = byWriter;
            origin = atSite;
            when = atTime;
        }

        int held() {
            return used;
        }

        boolean isFull() {
            return used >= SLOTS_MOST;
        }

        void addNumber(int x) {
            if (isFull()) {
                return;
            }
            isText[used] = false;
            numbers[used] = x;
            used++;
        }

        void addText(Row from, int place, int n) {
            if (isFull()) {
                return;
            }
            isText[used] = true;
            numbers[used] = Math.min(n, TEXT_MOST);
            for (int k = 0; k < numbers[used]; k++) {
                texts[used * TEXT_MOST + k] = (byte) from.at(place + k);
            }
            used++;
        }

        boolean hasNumber(int slot) {
            return slot >= 0 && slot < used && !isText[slot];
        }

        /** The number of a slot, or the size of its text. */
        int numberAt(int slot) {
            return slot >= 0 && slot < used ? numbers[slot] : 0;
        }

        void putText(int slot, Row out) {
            if (slot < 0 || slot >= used || !isText[slot]) {
                return;
            }
            for (int k = 0; k < numbers[slot]; k++) {
                out.put(texts[slot * TEXT_MOST + k]);
            }
        }

        int writer() {
            return writer;
        }

        int origin() {
            return origin;
        }

        long when() {
            return when;
        }

        boolean isBefore(Event other) {
            return when < other.when || when == other.when && writer < other.writer;
        }

        /** Of a row of the numbers that all sites' slots had last in a block, this site's and slot's. */
        static int lastIn(int[] lasts, int site, int slot) {
            int at = site * SLOTS_MOST + slot;
            return at >= 0 && at < lasts.length ? lasts[at] : 0;
        }

        void rememberIn(int[] lasts) {
            for (int slot = 0; slot < used; slot++) {
                int at = origin * SLOTS_MOST + slot;
                if (at >= 0 && at < lasts.length) {
                    lasts[at] = numbers[slot];
                }
            }
        }
    }

    /** What a writer has packed that is not in the file yet. */
    private static final class Block {
        private final int writer;
        private final Row events = new Row(EVENTS_MOST);
        private final int[] lasts = new int[SITES_MOST * SLOTS_MOST];
        private int order;
        private long firstTime;
        private long lastTime;

        Block(int ofWriter) {
            writer = ofWriter;
        }

        void beginFile() {
            order = 0;
            lastTime = 0;
            beginBlock();
        }

        void beginBlock() {
            events.begin();
            Arrays.fill(lasts, 0);
        }

        int held() {
            return events.held();
        }

        int room() {
            return events.room();
        }

        /** The time of the writer's last event in this file, 0 if it had none. */
        long lastTime() {
            return lastTime;
        }

        void pack(Event event, Row into) {
            into.begin();
            into.putVar(event.origin());
            into.putVar(events.held() == 0 ? 0 : event.when() - lastTime);
            for (int slot = 0; slot < event.held(); slot++) {
                if (event.hasNumber(slot)) {
                    packNumber(event.numberAt(slot), Event.lastIn(lasts, event.origin(), slot), into);
                } else {
                    into.put(event.numberAt(slot));
                    event.putText(slot, into);
                }
            }
        }

        private static void packNumber(int x, int last, Row into) {
            int step = x - last;
            if (step == 0) {
                into.put(0);
            } else if (step >= -STEP_MOST && step <= STEP_MOST) {
                into.put(STEP_NONE + step);
            } else {
                into.put(NUMBER_ITSELF);
                into.putBig(x, 4);
            }
        }

        void append(Event event, Row packed) {
            if (events.held() == 0) {
                firstTime = event.when();
            }
            lastTime = event.when();
            event.rememberIn(lasts);
            events.putRow(packed);
        }

        void moveTo(LogFile file) {
            file.append(writer, order, firstTime, events);
            order++;
            beginBlock();
        }
    }

    /** The file's bytes, and how many of them a crash leaves. */
    private static final class LogFile {
        private final Row bytes = new Row(BLOCKS_MOST * BLOCK_BYTES);
        private int durable;
        private boolean cut;

        void begin() {
            bytes.begin();
            durable = 0;
            cut = false;
        }

        Row row() {
            return bytes;
        }

        int held() {
            return bytes.held();
        }

        boolean isCut() {
            return cut;
        }

        boolean isFull() {
            return bytes.room() < BLOCK_BYTES;
        }

        void makeDurable() {
            durable = bytes.held();
        }

        void cutBehind(int n) {
            int more = bytes.held() - durable;
            bytes.shorten(durable + Math.min(n, more));
            cut = true;
        }

        void append(int writer, int order, long firstTime, Row events) {
            int from = bytes.held();
            bytes.put(BLOCK_MARK);
            bytes.put(writer);
            bytes.putBig(order, 2);
            bytes.putBig(firstTime, 8);
            bytes.putBig(events.held(), 2);
            bytes.putRow(events);
            bytes.putZeros(events.room());
            bytes.putBig(bytes.sumOfBlock(from), 4);
        }
    }

    /** Reads the events of one block after another. */
    private static final class Unpacker {
        private final int[] lasts = new int[SITES_MOST * SLOTS_MOST];
        private Row file = new Row(0);
        private int place;
        private int end;
        private int writer;
        private long lastTime;
        private boolean whole;

        /** False when the block that begins there is broken, whatever its events are. */
        boolean beginsBlock(Row ofFile, int from) {
            file = ofFile;
            long n = file.bigAt(from + COUNT_AT, 2);
            writer = file.at(from + WRITER_AT);
            lastTime = file.bigAt(from + TIME_AT, 8);
            place = from + EVENTS_AT;
            end = place + (int) n;
            whole = from + BLOCK_BYTES <= file.held()
                    && file.at(from) == BLOCK_MARK
                    && isWriter(writer)
                    && lastTime >= 0
                    && n <= EVENTS_MOST
                    && (int) file.bigAt(from + SUM_AT, 4) == file.sumOfBlock(from);
            Arrays.fill(lasts, 0);
            return whole;
        }

        boolean hasMore() {
            return whole && place < end;
        }

        /** False when there is no whole event at this place. */
        boolean unpacks(Event event, ArrayList<Format> sites) {
            event.begin();
            long site = takeVar();
            lastTime += takeVar();
            if (!whole || site < 0 || site >= sites.size() || lastTime < 0) {
                whole = false;
                return false;
            }
            event.happens(writer, (int) site, lastTime);
            Format format = sites.get((int) site);
            for (int slot = 0; slot < format.slots(); slot++) {
                if (format.isTextAt(slot)) {
                    takeText(event);
                } else {
                    event.addNumber(takeNumber(Event.lastIn(lasts, (int) site, slot)));
                }
            }
            event.rememberIn(lasts);
            return whole;
        }

        private int takeByte() {
            if (place >= end) {
                whole = false;
                return 0;
            }
            int b = file.at(place);
            place++;
            return b;
        }

        private long takeVar() {
            long x = 0;
            for (int k = 0; k < VAR_MOST; k++) {
                int b = takeByte();
                x |= (long) (b & 127) << (7 * k);
                if (b < 128) {
                    whole = whole && (b != 0 || k == 0);
                    return x;
                }
            }
            whole = false;
            return x;
        }

        private int takeNumber(int last) {
            int b = takeByte();
            if (b == 0) {
                return last;
            }
            if (b == NUMBER_ITSELF) {
                return takeNumberItself();
            }
            int step = b - STEP_NONE;
            if (step == 0 || step < -STEP_MOST || step > STEP_MOST) {
                whole = false;
            }
            return last + step;
        }

        private int takeNumberItself() {
            int x = 0;
            for (int k = 0; k < 4; k++) {
                x = (x << 8) | takeByte();
            }
            return x;
        }

        private void takeText(Event event) {
            int n = takeByte();
            if (n > TEXT_MOST || n > end - place) {
                whole = false;
                return;
            }
            event.addText(file, place, n);
            place += n;
        }
    }

    /** The lines that the file gave when it was read. */
    private static final class Lines {
        /** Every event that was ever made here, to be used again by the next reading. */
        private final ArrayList<Event> pool = new ArrayList<>();
        private final ArrayList<Event> sorted = new ArrayList<>();
        private final Unpacker unpacker = new Unpacker();
        private int used;
        private int brokenParts;

        int held() {
            return sorted.size();
        }

        Event at(int line) {
            return sorted.get(line);
        }

        int brokenParts() {
            return brokenParts;
        }

        void read(Row file, ArrayList<Format> sites) {
            sorted.clear();
            used = 0;
            brokenParts = 0;
            for (int from = 0; from < file.held(); from += BLOCK_BYTES) {
                int before = used;
                if (readsBlock(file, from, sites)) {
                    sortIn(before);
                } else {
                    used = before;
                    brokenParts++;
                }
            }
        }

        private boolean readsBlock(Row file, int from, ArrayList<Format> sites) {
            if (!unpacker.beginsBlock(file, from)) {
                return false;
            }
            for (int k = 0; k < EVENTS_MOST && unpacker.hasMore(); k++) {
                if (!unpacker.unpacks(nextEvent(), sites)) {
                    return false;
                }
            }
            return true;
        }

        private Event nextEvent() {
            if (used >= pool.size()) {
                pool.add(new Event());
            }
            used++;
            return pool.get(used - 1);
        }

        private void sortIn(int first) {
            for (int k = first; k < used; k++) {
                Event event = pool.get(k);
                sorted.add(placeOf(event), event);
            }
        }

        /** Behind all lines of the same time and writer, which stand before it in the file. */
        private int placeOf(Event event) {
            int low = 0;
            int high = sorted.size();
            while (low < high) {
                int middle = (low + high) / 2;
                if (event.isBefore(sorted.get(middle))) {
                    high = middle;
                } else {
                    low = middle + 1;
                }
            }
            return low;
        }
    }

    /** Prints a line by its site's format and by the tables as they are. */
    private static final class Printer {
        private final Names names = new Names();
        private final Row out = new Row(FORMAT_MOST + SLOTS_MOST * TEXT_MOST);
        private final int[] digits = new int[12];

        void giveName(int table, int code, Row given) {
            names.give(table, code, given);
        }

        Row print(Event line, Format format) {
            out.begin();
            for (int k = 0; k < format.pieceCount(); k++) {
                int piece = format.pieceAt(k);
                if (piece >= 0) {
                    out.put(piece);
                } else {
                    printSlot(format, -1 - piece, line);
                }
            }
            return out;
        }

        private void printSlot(Format format, int slot, Event line) {
            int x = line.numberAt(slot);
            switch (format.kindAt(slot)) {
                case 'u':
                    printDigits(x & 0xFFFFFFFFL, 0, 10);
                    break;
                case 'x':
                    printDigits(x & 0xFFFFFFFFL, 0, 16);
                    break;
                case 'e':
                    if (!names.putInto(out, format.digitAt(slot), x)) {
                        printSigned(x, 0);
                    }
                    break;
                case 't':
                    line.putText(slot, out);
                    break;
                default:
                    printSigned(x, format.digitAt(slot));
            }
        }

        private void printSigned(int x, int behindPoint) {
            if (x < 0) {
                out.put('-');
            }
            printDigits(Math.abs((long) x), behindPoint, 10);
        }

        private void printDigits(long x, int behindPoint, int base) {
            long rest = x;
            int n = 0;
            while (n < digits.length && (rest > 0 || n <= behindPoint)) {
                digits[n] = (int) (rest % base);
                rest /= base;
                n++;
            }
            for (int k = n - 1; k >= 0; k--) {
                out.put(digits[k] < 10 ? '0' + digits[k] : 'a' + digits[k] - 10);
                if (k == behindPoint && k > 0) {
                    out.put('.');
                }
            }
        }
    }

    /** Terms that a line must all hold. */
    private static final class Query {
        static final int SITE_IS = 0;
        static final int WRITER_IS = 1;
        static final int NOT_BELOW = 2;
        static final int NOT_ABOVE = 3;
        static final int TEXT_HAS = 4;

        private final int[] kinds = new int[TERMS_MOST];
        private final int[] subjects = new int[TERMS_MOST];
        private final int[] bounds = new int[TERMS_MOST];
        private final Row[] parts = new Row[TERMS_MOST];
        private int used;

        Query() {
            for (int k = 0; k < TERMS_MOST; k++) {
                parts[k] = new Row(SEARCH_MOST);
            }
        }

        void begin() {
            used = 0;
        }

        int held() {
            return used;
        }

        boolean isFull() {
            return used >= TERMS_MOST;
        }

        void addTerm(int kind, int a, int b) {
            if (isFull()) {
                return;
            }
            kinds[used] = kind;
            subjects[used] = a;
            bounds[used] = b;
            used++;
        }

        void addSearch(Row part) {
            if (isFull()) {
                return;
            }
            parts[used].begin();
            parts[used].putRow(part);
            addTerm(TEXT_HAS, 0, 0);
        }

        /** The line is printed only if all else holds, and once. */
        boolean holds(Event line, Format format, Printer printer) {
            boolean searches = false;
            for (int k = 0; k < used; k++) {
                if (kinds[k] == TEXT_HAS) {
                    searches = true;
                } else if (!holdsUnprinted(k, line)) {
                    return false;
                }
            }
            return !searches || partsStandIn(printer.print(line, format));
        }

        private boolean holdsUnprinted(int k, Event line) {
            switch (kinds[k]) {
                case SITE_IS:
                    return line.origin() == subjects[k];
                case WRITER_IS:
                    return line.writer() == subjects[k];
                case NOT_BELOW:
                    return line.hasNumber(subjects[k]) && line.numberAt(subjects[k]) >= bounds[k];
                default:
                    return line.hasNumber(subjects[k]) && line.numberAt(subjects[k]) <= bounds[k];
            }
        }

        private boolean partsStandIn(Row printed) {
            for (int k = 0; k < used; k++) {
                if (kinds[k] == TEXT_HAS && !printed.contains(parts[k])) {
                    return false;
                }
            }
            return true;
        }
    }

    /** Different numbers, sorted. */
    private static final class NumberSet {
        private int[] numbers = new int[0];
        private int used;

        void begin(int most) {
            used = 0;
            if (numbers.length < most) {
                numbers = new int[Math.max(most, 2 * numbers.length)];
            }
        }

        int held() {
            return used;
        }

        void add(int x) {
            int low = 0;
            int high = used;
            while (low < high) {
                int middle = (low + high) / 2;
                if (numbers[middle] < x) {
                    low = middle + 1;
                } else {
                    high = middle;
                }
            }
            boolean isThere = low < used && numbers[low] == x;
            if (!isThere && used < numbers.length) {
                System.arraycopy(numbers, low, numbers, low + 1, used - low);
                numbers[low] = x;
                used++;
            }
        }
    }
}
