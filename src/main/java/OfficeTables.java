public final class OfficeTables {
    public static final int UNKNOWN = -1, OUTSIDE = -2, STATE = -3, FULL = -4, NONE = -9;

    private static final int MOST_BYTES = 900, MOST_DIGITS = 6, MOST_LETTERS = 5;
    private static final int MOST_TABLES = 12, MOST_PARTS = 8, MOST_UNITS = 24, MOST_AROUND = 10;
    private static final int MOST_ENTRIES = 200, ROW_WIDTH = 8, MOST_ROWS = 25;
    private static final int MOST_UNDER_WAY = 12, MOST_KEPT = 100, MOST_SPAN = 1000;

    /**
     * A UNIT is one step, and one for the sign ahead of it. Only ( SUM ? SUM : SUM ) is two of its own, but the
     * first UNITS of the SUMS in it have no sign ahead.
     */
    private static final int MOST_STEPS = 2 * MOST_UNITS;
    /** Each of those under way works out one SUM, in which every waiting number is of another UNIT. */
    private static final int MOST_WAITING = MOST_UNDER_WAY * MOST_UNITS;

    private static final int ASLEEP = 0, UNDER_WAY = 1, READY = 2, FAILED = 3;

    private static final int DIVIDED_BY_ZERO = 1, NO_SUCH_PLACE = 2, SIZE_BELOW = 3, SIZE_ABOVE = 4,
        OTHER_SUM = 5, FAILED_BEFORE = 6, FAILED_WITHIN = 7, TOO_MANY_UNDER_WAY = 8;
    private static final int ONE_FAILS = -10, FAULT_BASE = -100;

    /** Kinds of TOKENS; a sign's kind is its byte, and all signs stand above these. */
    private static final int THE_END = 0, NUMBER = 1, NAME = 2, NO_TOKEN = 3,
        TABLE_WORD = 4, WHOLE_WORD = 5, ROWS_WORD = 6, SUM_WORD = 7, PLACE_WORD = 8;

    /** Steps of a SUM; the signs between two numbers are told by their bytes. */
    private static final int CONSTANT = 0, PLACE = 1, SIZE_OF = 2, ENTRY_OF = 3, NEGATE = 4,
        SKIP = 5, SKIP_IF_ZERO = 6;

    private final Tape tape;
    private final TextReader reader;
    private final Workshop workshop;
    private Text text;
    private Text spare;

    public OfficeTables() {
        tape = new Tape();
        reader = new TextReader(tape);
        text = new Text();
        spare = new Text();
        workshop = new Workshop(text);
    }

    // ---- the text

    public int feed(long w) {
        return tape.append(w) ? tape.length : FULL;
    }

    public int read() {
        int fault = reader.parse(spare);
        if (fault != NONE) {
            return FAULT_BASE - fault;
        }
        Text before = text;
        text = spare;
        spare = before;
        text.putToSleep();
        workshop.open(text);
        tape.empty();
        return text.told;
    }

    public int cut() {
        int had = tape.length;
        tape.empty();
        return had;
    }

    public int named(long letters) {
        return text.numberOf(letters);
    }

    // ---- constants

    public int size(int table) {
        Table asked = text.tableAt(table);
        return asked == null ? UNKNOWN : (int) asked.size;
    }

    public int state(int table) {
        Table asked = text.tableAt(table);
        return asked == null ? UNKNOWN : asked.condition;
    }

    public int row(int table, int row) {
        Table asked = text.tableAt(table);
        if (asked == null) {
            return UNKNOWN;
        }
        if (!asked.byRows || asked.condition != READY) {
            return STATE;
        }
        return row < 0 || row >= asked.rowsInAll() ? OUTSIDE : at(asked.rowConditions, row);
    }

    // ---- entries

    public long entry(int table, int place) {
        workshop.startCall();
        return workshop.askFor(table, place) ? workshop.got : 0;
    }

    public int reason(int k) {
        return workshop.reasonAt(k);
    }

    public long sum(int table, int from, int to, int k) {
        if (text.tableAt(table) == null) {
            return UNKNOWN;
        }
        long span = (long) to - from;
        if (k < 0 || k > 2 || span < 0 || span > MOST_SPAN) {
            return OUTSIDE;
        }
        workshop.startCall();
        return workshop.addUp(table, from, to) ? workshop.total.part(k) : 0;
    }

    public int find(int table, long v) {
        if (text.tableAt(table) == null) {
            return UNKNOWN;
        }
        workshop.startCall();
        return workshop.search(table, v);
    }

    public int drop(int table) {
        Table asked = text.tableAt(table);
        if (asked == null) {
            return UNKNOWN;
        }
        if (asked.condition != READY) {
            return STATE;
        }
        asked.putToSleep();
        return (int) asked.size;
    }

    // ---- what was done

    public int builds() {
        return workshop.buildLog.begun;
    }

    public int build(int i, int what) {
        Log log = workshop.buildLog;
        if (!log.keeps(i)) {
            return UNKNOWN;
        }
        return what < 0 || what > 2 ? OUTSIDE : (int) log.told(i, what);
    }

    public int halves() {
        return workshop.halfLog.begun;
    }

    public long half(int i, int what) {
        Log log = workshop.halfLog;
        if (!log.keeps(i)) {
            return UNKNOWN;
        }
        return what < 0 || what > 3 ? OUTSIDE : log.told(i, what);
    }

    public int reads(int table, int other) {
        Table asked = text.tableAt(table);
        if (asked == null || text.tableAt(other) == null) {
            return UNKNOWN;
        }
        return asked.formula.names(other) ? 1 : 0;
    }

    public int count(int what) {
        switch (what) {
            case 0:
                return text.told;
            case 1:
                return text.howManyAre(READY);
            case 2:
                return text.howManyAre(FAILED);
            case 3:
                return text.readyEntries();
            case 4:
                return tape.length;
            default:
                return OUTSIDE;
        }
    }

    // Every array of numbers is used through these, so that no index goes untested.

    private static int at(int[] numbers, int k) {
        return k >= 0 && k < numbers.length ? numbers[k] : 0;
    }

    private static long at(long[] numbers, int k) {
        return k >= 0 && k < numbers.length ? numbers[k] : 0;
    }

    private static void put(int[] numbers, int k, int number) {
        if (k >= 0 && k < numbers.length) {
            numbers[k] = number;
        }
    }

    private static void put(long[] numbers, int k, long number) {
        if (k >= 0 && k < numbers.length) {
            numbers[k] = number;
        }
    }

    private static final class Tape {
        private final byte[] bytes;
        int length;

        Tape() {
            bytes = new byte[MOST_BYTES];
            length = 0;
        }

        boolean append(long w) {
            int more = bytesIn(w);
            if (length + more > MOST_BYTES) {
                return false;
            }
            for (int k = 0; k < more; k++) {
                putByte(length + k, (byte) (w >>> (8 * k)));
            }
            length += more;
            return true;
        }

        private static int bytesIn(long w) {
            int some = 0;
            while (some < 8 && ((w >>> (8 * some)) & 255) != 0) {
                some++;
            }
            return some;
        }

        private void putByte(int place, byte one) {
            if (place >= 0 && place < bytes.length) {
                bytes[place] = one;
            }
        }

        /** 0 tells the end: no byte of the tape is 0. */
        int byteAt(int place) {
            return place >= 0 && place < length && place < bytes.length ? bytes[place] & 255 : 0;
        }

        void empty() {
            length = 0;
        }
    }

    /** Goes over the tape token by token. */
    private static final class Tokens {
        private static final long TABLE_LETTERS = (long) 'e' << 32 | 'l' << 24 | 'b' << 16 | 'a' << 8 | 't';
        private static final long WHOLE_LETTERS = (long) 'e' << 32 | 'l' << 24 | 'o' << 16 | 'h' << 8 | 'w';
        private static final long ROWS_LETTERS = 's' << 24 | 'w' << 16 | 'o' << 8 | 'r';
        private static final long SUM_LETTERS = 'm' << 16 | 'u' << 8 | 's';

        private final Tape tape;
        private int next;
        int kind;
        int place;
        long value;

        Tokens(Tape tape) {
            this.tape = tape;
            next = 0;
            kind = THE_END;
            place = 0;
            value = 0;
        }

        void start() {
            next = 0;
            advance();
        }

        void advance() {
            skipBlanks();
            place = next;
            value = 0;
            int first = tape.byteAt(next);
            if (isDigit(first)) {
                kind = takeDigits() > MOST_DIGITS ? NO_TOKEN : NUMBER;
            } else if (isLetter(first)) {
                kind = takeLetters() > MOST_LETTERS ? NO_TOKEN : kindOfWord(value);
            } else {
                kind = isSign(first) ? first : first == 0 ? THE_END : NO_TOKEN;
                next++;
            }
        }

        private void skipBlanks() {
            while (next < MOST_BYTES && (tape.byteAt(next) == 32 || tape.byteAt(next) == 10)) {
                next++;
            }
        }

        private int takeDigits() {
            int taken = 0;
            while (taken < MOST_BYTES && isDigit(tape.byteAt(next))) {
                value = value * 10 + (tape.byteAt(next) - '0');
                next++;
                taken++;
            }
            return taken;
        }

        private int takeLetters() {
            int taken = 0;
            while (taken < MOST_BYTES && isLetter(tape.byteAt(next))) {
                if (taken < MOST_LETTERS) {
                    value |= (long) tape.byteAt(next) << (8 * taken);
                }
                next++;
                taken++;
            }
            return taken;
        }

        private static boolean isDigit(int one) {
            return one >= '0' && one <= '9';
        }

        private static boolean isLetter(int one) {
            return one >= 'a' && one <= 'z';
        }

        private static boolean isSign(int one) {
            switch (one) {
                case '[':
                case ']':
                case '(':
                case ')':
                case '=':
                case '+':
                case '-':
                case '*':
                case '/':
                case '%':
                case '<':
                case '?':
                case ':':
                case '#':
                case ';':
                    return true;
                default:
                    return false;
            }
        }

        private static int kindOfWord(long letters) {
            if (letters == TABLE_LETTERS) {
                return TABLE_WORD;
            }
            if (letters == WHOLE_LETTERS) {
                return WHOLE_WORD;
            }
            if (letters == ROWS_LETTERS) {
                return ROWS_WORD;
            }
            if (letters == SUM_LETTERS) {
                return SUM_WORD;
            }
            return letters == 'i' ? PLACE_WORD : NAME;
        }
    }

    /** A SUM as steps over a stack of waiting numbers: so no depth of its UNITS adds to the depth of calls. */
    private static final class Formula {
        private final int[] steps;
        private final long[] with;
        private final int[] places;
        int length;

        Formula() {
            steps = new int[MOST_STEPS];
            with = new long[MOST_STEPS];
            places = new int[MOST_STEPS];
            length = 0;
        }

        void clear() {
            length = 0;
        }

        void add(int step, long number, int place) {
            if (length >= 0 && length < MOST_STEPS) {
                put(steps, length, step);
                put(with, length, number);
                put(places, length, place);
                length++;
            }
        }

        /** The step at k leads over all that have been added behind it. */
        void skipToHere(int k) {
            put(with, k, length - k - 1);
        }

        int stepAt(int k) {
            return at(steps, k);
        }

        long withAt(int k) {
            return at(with, k);
        }

        /** Never back, whatever stands there, so that every working out has an end. */
        int skipAt(int k) {
            return (int) Math.max(0, Math.min(MOST_STEPS, at(with, k)));
        }

        boolean isNameAt(int k) {
            int step = at(steps, k);
            return step == ENTRY_OF || step == SIZE_OF;
        }

        int placeAt(int k) {
            return at(places, k);
        }

        void resolve(int k, int number) {
            put(with, k, number);
        }

        boolean names(int number) {
            for (int k = 0; k < length; k++) {
                if (at(steps, k) == ENTRY_OF && at(with, k) == number) {
                    return true;
                }
            }
            return false;
        }
    }

    private static final class Table {
        final Formula formula;
        final long[] entries;
        final int[] rowConditions;
        long name;
        long size;
        boolean byRows;
        boolean isPromised;
        long promise;
        int condition;

        Table() {
            formula = new Formula();
            entries = new long[MOST_ENTRIES];
            rowConditions = new int[MOST_ROWS];
            name = 0;
            size = 0;
            byRows = false;
            isPromised = false;
            promise = 0;
            condition = ASLEEP;
        }

        void putToSleep() {
            condition = ASLEEP;
            for (int k = 0; k < rowConditions.length; k++) {
                rowConditions[k] = ASLEEP;
            }
        }

        int entriesInAll() {
            return (int) Math.max(0, Math.min(MOST_ENTRIES, size));
        }

        int rowsInAll() {
            return (entriesInAll() + ROW_WIDTH - 1) / ROW_WIDTH;
        }

        int endOfRow(int row) {
            return Math.min(entriesInAll(), ROW_WIDTH * row + ROW_WIDTH);
        }

        void clearEntries() {
            for (int k = 0; k < entries.length; k++) {
                entries[k] = 0;
            }
        }

        int readyEntries() {
            if (condition != READY) {
                return 0;
            }
            if (!byRows) {
                return entriesInAll();
            }
            int together = 0;
            for (int row = 0; row < rowsInAll(); row++) {
                if (at(rowConditions, row) == READY) {
                    together += endOfRow(row) - ROW_WIDTH * row;
                }
            }
            return together;
        }
    }

    private static final class Text {
        private final Table[] tables;
        int told;

        Text() {
            tables = new Table[MOST_TABLES];
            for (int k = 0; k < tables.length; k++) {
                tables[k] = new Table();
            }
            told = 0;
        }

        /** Also one that is not told yet. */
        Table slotAt(int number) {
            return number >= 0 && number < tables.length ? tables[number] : null;
        }

        Table tableAt(int number) {
            return number < told ? slotAt(number) : null;
        }

        int numberOf(long name) {
            for (int k = 0; k < told; k++) {
                Table one = slotAt(k);
                if (one != null && one.name == name) {
                    return k;
                }
            }
            return NONE;
        }

        long sizeOf(int number) {
            Table one = tableAt(number);
            return one == null ? 0 : one.size;
        }

        void putToSleep() {
            for (int k = 0; k < told; k++) {
                Table one = slotAt(k);
                if (one != null) {
                    one.putToSleep();
                }
            }
        }

        int howManyAre(int condition) {
            int many = 0;
            for (int k = 0; k < told; k++) {
                Table one = slotAt(k);
                if (one != null && one.condition == condition) {
                    many++;
                }
            }
            return many;
        }

        int readyEntries() {
            int together = 0;
            for (int k = 0; k < told; k++) {
                Table one = slotAt(k);
                if (one != null) {
                    together += one.readyEntries();
                }
            }
            return together;
        }
    }

    /** Reads the tape into a text that nobody uses yet, so that a fault leaves all as it was. */
    private static final class TextReader {
        private final Tokens tokens;
        private Formula formula;
        private int units;
        private int fault;
        private int nameFault;

        TextReader(Tape tape) {
            tokens = new Tokens(tape);
            formula = null;
            units = 0;
            fault = NONE;
            nameFault = NONE;
        }

        /** The place of the fault, or NONE. */
        int parse(Text target) {
            fault = NONE;
            nameFault = NONE;
            target.told = 0;
            tokens.start();
            boolean isMore = true;
            for (int k = 0; k < MOST_TABLES && isMore; k++) {
                Table table = target.slotAt(k);
                if (table == null || !takeTable(target, table)) {
                    return fault;
                }
                target.told = k + 1;
                isMore = tokens.kind != THE_END;
            }
            if (isMore) {
                return tokens.place;
            }
            resolveNames(target);
            return nameFault;
        }

        private boolean faultHere() {
            fault = tokens.place;
            return false;
        }

        private void noteNameFault(int place) {
            if (nameFault == NONE || place < nameFault) {
                nameFault = place;
            }
        }

        private boolean expect(int kind) {
            if (tokens.kind != kind) {
                return faultHere();
            }
            tokens.advance();
            return true;
        }

        private boolean takeTable(Text target, Table table) {
            if (!expect(TABLE_WORD)) {
                return false;
            }
            if (tokens.kind == NAME && target.numberOf(tokens.value) != NONE) {
                noteNameFault(tokens.place);
            }
            table.name = tokens.value;
            table.formula.clear();
            formula = table.formula;
            units = 0;
            return expect(NAME) && expect('[') && takeSize(target, table) && expect(']')
                && takeManner(table) && expect('=') && takeSum(0) && takeEnd(table);
        }

        private boolean takeSize(Text target, Table table) {
            long size = 0;
            int sign = '+';
            for (int k = 0; k < MOST_PARTS; k++) {
                boolean isName = tokens.kind == '#';
                if (isName) {
                    tokens.advance();
                }
                long part = isName ? sizeToldAhead(target) : tokens.value;
                if (!expect(isName ? NAME : NUMBER)) {
                    return false;
                }
                size = sign == '+' ? size + part : sign == '-' ? size - part : size * part;
                sign = tokens.kind;
                if (sign != '+' && sign != '-' && sign != '*') {
                    table.size = size;
                    return true;
                }
                tokens.advance();
            }
            return faultHere();
        }

        /** The table that is being told is not among those told yet, so its own name is a fault here. */
        private long sizeToldAhead(Text target) {
            int number = target.numberOf(tokens.value);
            if (tokens.kind == NAME && number == NONE) {
                noteNameFault(tokens.place);
            }
            return target.sizeOf(number);
        }

        private boolean takeManner(Table table) {
            table.byRows = tokens.kind == ROWS_WORD;
            return table.byRows ? expect(ROWS_WORD) : expect(WHOLE_WORD);
        }

        private boolean takeEnd(Table table) {
            table.isPromised = tokens.kind == SUM_WORD;
            if (table.isPromised) {
                tokens.advance();
                boolean below = tokens.kind == '-';
                if (below) {
                    tokens.advance();
                }
                table.promise = below ? -tokens.value : tokens.value;
                if (!expect(NUMBER)) {
                    return false;
                }
            }
            return expect(';');
        }

        private void addStep(int step, long number, int place) {
            if (formula != null) {
                formula.add(step, number, place);
            }
        }

        private boolean takeSum(int around) {
            if (!takeProduct(around)) {
                return false;
            }
            for (int k = 0; k < MOST_BYTES && (tokens.kind == '+' || tokens.kind == '-'); k++) {
                int sign = tokens.kind;
                tokens.advance();
                if (!takeProduct(around)) {
                    return false;
                }
                addStep(sign, 0, NONE);
            }
            return true;
        }

        private boolean takeProduct(int around) {
            if (!takeUnit(around)) {
                return false;
            }
            for (int k = 0; k < MOST_BYTES && isProductSign(tokens.kind); k++) {
                int sign = tokens.kind;
                tokens.advance();
                if (!takeUnit(around)) {
                    return false;
                }
                addStep(sign, 0, NONE);
            }
            return true;
        }

        private static boolean isProductSign(int kind) {
            return kind == '*' || kind == '/' || kind == '%';
        }

        private boolean takeUnit(int around) {
            if (units >= MOST_UNITS || around > MOST_AROUND) {
                return faultHere();
            }
            units++;
            switch (tokens.kind) {
                case NUMBER:
                    addStep(CONSTANT, tokens.value, NONE);
                    return expect(NUMBER);
                case PLACE_WORD:
                    addStep(PLACE, 0, NONE);
                    return expect(PLACE_WORD);
                case '#':
                    tokens.advance();
                    addStep(SIZE_OF, tokens.value, tokens.place);
                    return expect(NAME);
                case NAME:
                    return takeEntry(around);
                case '-':
                    tokens.advance();
                    if (!takeUnit(around + 1)) {
                        return false;
                    }
                    addStep(NEGATE, 0, NONE);
                    return true;
                case '(':
                    return takeGroup(around);
                default:
                    return faultHere();
            }
        }

        private boolean takeEntry(int around) {
            long name = tokens.value;
            int place = tokens.place;
            if (!expect(NAME) || !expect('[') || !takeSum(around + 1) || !expect(']')) {
                return false;
            }
            addStep(ENTRY_OF, name, place);
            return true;
        }

        private boolean takeGroup(int around) {
            if (!expect('(') || !takeSum(around + 1)) {
                return false;
            }
            if (tokens.kind == '<') {
                tokens.advance();
                if (!takeSum(around + 1)) {
                    return false;
                }
                addStep('<', 0, NONE);
            } else if (tokens.kind == '?' && !takeChoice(around)) {
                return false;
            }
            return expect(')');
        }

        private boolean takeChoice(int around) {
            if (formula == null || !expect('?')) {
                return false;
            }
            int overFirst = formula.length;
            formula.add(SKIP_IF_ZERO, 0, NONE);
            if (!takeSum(around + 1) || !expect(':')) {
                return false;
            }
            int overOther = formula.length;
            formula.add(SKIP, 0, NONE);
            formula.skipToHere(overFirst);
            if (!takeSum(around + 1)) {
                return false;
            }
            formula.skipToHere(overOther);
            return true;
        }

        /** Only now all tables are told: a SUM may name one that is told behind it. */
        private void resolveNames(Text target) {
            for (int k = 0; k < target.told; k++) {
                Table table = target.slotAt(k);
                if (table != null) {
                    resolveNamesIn(table.formula, target);
                }
            }
        }

        private void resolveNamesIn(Formula one, Text target) {
            for (int k = 0; k < one.length; k++) {
                if (one.isNameAt(k)) {
                    int number = target.numberOf(one.withAt(k));
                    if (number == NONE) {
                        noteNameFault(one.placeAt(k));
                    }
                    one.resolve(k, number);
                }
            }
        }
    }

    /** An exact sum in 128 bits: far more than all entries of a call can need. */
    private static final class Total {
        private long low;
        private long high;

        Total() {
            low = 0;
            high = 0;
        }

        void clear() {
            low = 0;
            high = 0;
        }

        void add(long number) {
            long together = low + number;
            long carry = ((low & number) | ((low | number) & ~together)) >>> 63;
            low = together;
            high += (number >> 63) + carry;
        }

        boolean is(long number) {
            return low == number && high == number >> 63;
        }

        long part(int k) {
            long from = k == 0 ? low : k == 1 ? low >>> 32 : high;
            return from & 0xFFFFFFFFL;
        }
    }

    /** Counts all that is noted, and keeps the first ones. */
    private static final class Log {
        private static final int COLUMNS = 4;
        private final long[] kept;
        int begun;

        Log() {
            kept = new long[COLUMNS * MOST_KEPT];
            begun = 0;
        }

        void clear() {
            begun = 0;
        }

        void note(long first, long second, long third, long fourth) {
            if (begun >= 0 && begun < MOST_KEPT) {
                put(kept, COLUMNS * begun, first);
                put(kept, COLUMNS * begun + 1, second);
                put(kept, COLUMNS * begun + 2, third);
                put(kept, COLUMNS * begun + 3, fourth);
            }
            begun++;
        }

        boolean keeps(int i) {
            return i >= 0 && i < begun && i < MOST_KEPT;
        }

        long told(int i, int column) {
            return at(kept, COLUMNS * i + column);
        }
    }

    /** Makes tables, rows and entries, and knows by what the latest call failed. */
    private static final class Workshop {
        final Log buildLog;
        final Log halfLog;
        final Total total;
        long got;
        private final Total promisedTotal;
        private Text text;
        private final long[] waiting;
        private int waitingMany;
        private int underWay;
        /** The innermost first: they come up from there. */
        private final int[] reasons;
        private int reasonsMany;
        private boolean isOwned;

        Workshop(Text text) {
            buildLog = new Log();
            halfLog = new Log();
            total = new Total();
            got = 0;
            promisedTotal = new Total();
            this.text = text;
            waiting = new long[MOST_WAITING];
            waitingMany = 0;
            underWay = 0;
            reasons = new int[MOST_UNDER_WAY];
            reasonsMany = 0;
            isOwned = false;
        }

        void open(Text other) {
            text = other;
            buildLog.clear();
            halfLog.clear();
            startCall();
        }

        /** What failed may have left numbers that wait for the rest of their SUM. */
        void startCall() {
            waitingMany = 0;
            reasonsMany = 0;
            isOwned = false;
        }

        int reasonAt(int k) {
            return k < 0 || k >= reasonsMany ? NONE : at(reasons, reasonsMany - 1 - k);
        }

        /** The entry stands in got then; false: that failed. */
        boolean askFor(int number, long place) {
            return ask(number, place, NONE);
        }

        boolean addUp(int number, int from, int to) {
            total.clear();
            for (long place = from; place <= to; place++) {
                if (!ask(number, place, NONE)) {
                    return false;
                }
                total.add(got);
            }
            return true;
        }

        int search(int number, long wanted) {
            Table table = text.tableAt(number);
            if (table == null || !awaken(table, number, NONE)) {
                return ONE_FAILS;
            }
            for (int place = 0; place < table.entriesInAll(); place++) {
                if (!ask(number, place, NONE)) {
                    return ONE_FAILS;
                }
                if (got == wanted) {
                    return place;
                }
            }
            return NONE;
        }

        private boolean ask(int number, long place, int asker) {
            Table table = text.tableAt(number);
            if (table == null || !awaken(table, number, asker)) {
                return false;
            }
            if (place < 0 || place >= table.entriesInAll()) {
                return fail(NO_SUCH_PLACE);
            }
            int where = (int) place;
            boolean isHalf = table.condition == UNDER_WAY;
            if (table.byRows && !isHalf) {
                int row = where / ROW_WIDTH;
                if (!awakenRow(table, number, row, asker)) {
                    return false;
                }
                isHalf = at(table.rowConditions, row) == UNDER_WAY;
            }
            got = at(table.entries, where);
            if (isHalf) {
                halfLog.note(number, where, asker, got);
            }
            return true;
        }

        private boolean awaken(Table table, int number, int asker) {
            if (table.condition == FAILED) {
                return fail(FAILED_BEFORE);
            }
            return table.condition != ASLEEP || wake(table, number, asker);
        }

        private boolean awakenRow(Table table, int number, int row, int asker) {
            int condition = at(table.rowConditions, row);
            if (condition == FAILED) {
                return fail(FAILED_BEFORE);
            }
            return condition != ASLEEP || makeRow(table, number, row, asker);
        }

        private boolean wake(Table table, int number, int asker) {
            if (underWay >= MOST_UNDER_WAY) {
                return fail(TOO_MANY_UNDER_WAY);
            }
            underWay++;
            table.condition = UNDER_WAY;
            buildLog.note(number, NONE, asker, 0);
            boolean well = layOut(table) && fill(table, number) && keepsPromise(table);
            underWay--;
            table.condition = well ? READY : FAILED;
            return well || failWithReason();
        }

        private boolean layOut(Table table) {
            if (table.size < 0) {
                return fail(SIZE_BELOW);
            }
            if (table.size > MOST_ENTRIES) {
                return fail(SIZE_ABOVE);
            }
            table.clearEntries();
            return true;
        }

        private boolean fill(Table table, int number) {
            if (!table.byRows) {
                return makeEntries(table, number, 0, table.entriesInAll());
            }
            for (int row = 0; table.isPromised && row < table.rowsInAll(); row++) {
                if (!makeRow(table, number, row, NONE)) {
                    return false;
                }
            }
            return true;
        }

        private boolean keepsPromise(Table table) {
            if (!table.isPromised) {
                return true;
            }
            promisedTotal.clear();
            for (int place = 0; place < table.entriesInAll(); place++) {
                promisedTotal.add(at(table.entries, place));
            }
            return promisedTotal.is(table.promise) || fail(OTHER_SUM);
        }

        /** The entries of a row that fails may stay: nobody can ask for them again. */
        private boolean makeRow(Table table, int number, int row, int asker) {
            if (underWay >= MOST_UNDER_WAY) {
                return fail(TOO_MANY_UNDER_WAY);
            }
            underWay++;
            put(table.rowConditions, row, UNDER_WAY);
            buildLog.note(number, row, asker, 0);
            boolean well = makeEntries(table, number, ROW_WIDTH * row, table.endOfRow(row));
            underWay--;
            put(table.rowConditions, row, well ? READY : FAILED);
            return well || failWithReason();
        }

        private boolean makeEntries(Table table, int number, int from, int end) {
            for (int place = from; place < end; place++) {
                if (!workOut(table.formula, number, place)) {
                    return false;
                }
                put(table.entries, place, pop());
            }
            return true;
        }

        private boolean workOut(Formula formula, int number, int place) {
            for (int k = 0; k < formula.length; k++) {
                int step = formula.stepAt(k);
                switch (step) {
                    case CONSTANT:
                        push(formula.withAt(k));
                        break;
                    case PLACE:
                        push(place);
                        break;
                    case SIZE_OF:
                        push(text.sizeOf((int) formula.withAt(k)));
                        break;
                    case ENTRY_OF:
                        if (!ask((int) formula.withAt(k), pop(), number)) {
                            return false;
                        }
                        push(got);
                        break;
                    case NEGATE:
                        push(-pop());
                        break;
                    case SKIP:
                        k += formula.skipAt(k);
                        break;
                    case SKIP_IF_ZERO:
                        k += pop() == 0 ? formula.skipAt(k) : 0;
                        break;
                    default:
                        if (!workOutPair(step)) {
                            return false;
                        }
                }
            }
            return true;
        }

        private boolean workOutPair(int sign) {
            long right = pop();
            long left = pop();
            switch (sign) {
                case '+':
                    push(left + right);
                    return true;
                case '-':
                    push(left - right);
                    return true;
                case '*':
                    push(left * right);
                    return true;
                case '<':
                    push(left < right ? 1 : 0);
                    return true;
                default:
                    if (right == 0) {
                        return fail(DIVIDED_BY_ZERO);
                    }
                    push(sign == '/' ? left / right : left % right);
                    return true;
            }
        }

        private void push(long number) {
            put(waiting, waitingMany, number);
            waitingMany++;
        }

        private long pop() {
            waitingMany--;
            return at(waiting, waitingMany);
        }

        /** A failure nobody has taken yet: it is the reason of the table or row around it. */
        private boolean fail(int why) {
            addReason(why);
            return false;
        }

        /** The innermost that fails takes the reason that stands there; each one around it adds its own. */
        private boolean failWithReason() {
            if (isOwned) {
                addReason(FAILED_WITHIN);
            }
            isOwned = true;
            return false;
        }

        private void addReason(int why) {
            put(reasons, reasonsMany, why);
            reasonsMany++;
        }
    }
}
