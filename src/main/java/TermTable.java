/** A table of terms, each kept once under one number; ../shared/DOC.md says what every call promises. */
public final class TermTable {
    public static final int BAD = -1;
    public static final int NO = -2;
    public static final int FULL = -3;

    private static final int BLANK = 1;
    private static final int NAME = 2;
    private static final int WHOLE = 3;
    private static final int DECIMAL = 4;
    private static final int TEXT = 5;
    private static final int LANGUAGE = 6;
    private static final int TYPED = 7;
    private static final int TRUTH = 8;

    private static final int MOST_TAPE = 240;
    private static final int MOST_TERMS = 2000;
    private static final int MOST_BYTES = 40000;
    private static final int MOST_NAME = 60;
    private static final int MOST_ITEMS = 64;
    private static final int MOST_TAG = 20;
    private static final int MOST_RUN = 8;
    private static final int MOST_DIGITS = 18;
    private static final int MOST_SCALE = 9;
    private static final long MOST_NUMBER = 999999999999999999L;
    // The longest is a text of 64 items, all with a \ before them, and a type: 2 + 128 + 2 + 62.
    private static final int MOST_WRITTEN = 194;

    private static final int FAULT_BASE = -100;
    private static final int ERROR = 2;

    private final Row tape;
    private final Term draft;
    private final Reader reader;
    private final Terms terms;
    private final Writer writer;

    public TermTable() {
        tape = new Row(MOST_TAPE);
        draft = new Term(MOST_ITEMS, MOST_NAME);
        reader = new Reader(draft);
        terms = new Terms();
        writer = new Writer();
    }

    public int type(long bytes, int n) {
        if (n < 1 || n > 8) {
            return BAD;
        }
        if (tape.size() + n > MOST_TAPE) {
            return FULL;
        }
        for (int i = n - 1; i >= 0; i--) {
            tape.add((int) (bytes >>> (8 * i)) & 255);
        }
        return tape.size();
    }

    public int read() {
        int fault = reader.readTerm(tape);
        tape.clear();
        return fault == 0 ? terms.keep(draft) : FAULT_BASE - fault;
    }

    public int find() {
        int fault = reader.readTerm(tape);
        tape.clear();
        return fault == 0 ? terms.numberOf(draft) : FAULT_BASE - fault;
    }

    public int place() {
        return reader.latestPlace();
    }

    public int whole(long v) {
        if (!hasFewDigits(v)) {
            return BAD;
        }
        draft.become(WHOLE, v, 0);
        return terms.keep(draft);
    }

    public int decimal(long unscaled, int scale) {
        if (scale < 0 || scale > MOST_SCALE || !hasFewDigits(unscaled)) {
            return BAD;
        }
        draft.become(DECIMAL, unscaled, scale);
        draft.leaveOffZeros();
        return terms.keep(draft);
    }

    public int count() {
        return terms.size();
    }

    public int used() {
        return terms.bytes();
    }

    public int kind(int term) {
        Term asked = terms.get(term);
        return asked == null ? BAD : asked.sort;
    }

    public long value(int term) {
        Term asked = terms.get(term);
        return asked == null ? 0 : asked.number;
    }

    public int scale(int term) {
        Term asked = terms.get(term);
        return asked == null ? BAD : asked.places;
    }

    public int write(int term) {
        Term asked = terms.get(term);
        return asked == null ? BAD : writer.writeTerm(asked);
    }

    public int written(int i) {
        return writer.byteAt(i);
    }

    public int part(int term, int what) {
        Term asked = terms.get(term);
        if (asked == null) {
            return BAD;
        }
        if (what == 0 && (asked.sort == TEXT || asked.sort == LANGUAGE || asked.sort == TYPED)) {
            return keepBytes(TEXT, asked.body);
        }
        if (what == 1 && asked.sort == LANGUAGE) {
            return keepBytes(TEXT, asked.tail);
        }
        if (what == 2 && asked.sort == TYPED) {
            return keepBytes(NAME, asked.tail);
        }
        return NO;
    }

    public int order(int a, int b) {
        Term one = terms.get(a);
        Term other = terms.get(b);
        return one == null || other == null ? ERROR : one.orderTo(other);
    }

    public int same(int a, int b) {
        Term one = terms.get(a);
        Term other = terms.get(b);
        if (one == null || other == null) {
            return ERROR;
        }
        if (one.rank() != other.rank()) {
            return one.isStrangeTo(other) || other.isStrangeTo(one) ? ERROR : 0;
        }
        if (one.valueTo(other) == 0 && one.tail.orderTo(other.tail) == 0) {
            return 1;
        }
        return one.sort == TYPED ? ERROR : 0;
    }

    public int less(int a, int b) {
        Term one = terms.get(a);
        Term other = terms.get(b);
        if (one == null || other == null || one.rank() != other.rank() || !one.hasLess()) {
            return ERROR;
        }
        return one.valueTo(other) < 0 ? 1 : 0;
    }

    private int keepBytes(int kind, Row bytes) {
        draft.become(kind, 0, 0);
        draft.body.addAll(bytes);
        return terms.keep(draft);
    }

    private static boolean hasFewDigits(long number) {
        return number >= -MOST_NUMBER && number <= MOST_NUMBER;
    }

    private static int compareNumbers(long a, long b) {
        return a < b ? -1 : a > b ? 1 : 0;
    }

    /** A row of bytes that never outgrows the room it is made with. */
    private static final class Row {
        private final byte[] bytes;
        private int length;

        Row(int room) {
            bytes = new byte[Math.max(room, 0)];
            length = 0;
        }

        int size() {
            return length;
        }

        /** Byte i as 0 .. 255; -1, which is no byte, where there is none. */
        int at(int i) {
            return i >= 0 && i < length && i < bytes.length ? bytes[i] & 255 : -1;
        }

        void add(int b) {
            if (length >= 0 && length < bytes.length) {
                bytes[length] = (byte) b;
                length++;
            }
        }

        void addAll(Row other) {
            for (int i = 0; i < other.length; i++) {
                add(other.at(i));
            }
        }

        void addWord(String word) {
            for (int i = 0; i < word.length(); i++) {
                add(word.charAt(i));
            }
        }

        void clear() {
            length = 0;
        }

        boolean spells(String word) {
            if (length != word.length()) {
                return false;
            }
            for (int i = 0; i < word.length(); i++) {
                if (at(i) != word.charAt(i)) {
                    return false;
                }
            }
            return true;
        }

        boolean hasBytesOf(Row other) {
            return length == other.length && orderTo(other) == 0;
        }

        int orderTo(Row other) {
            int shorter = Math.min(length, other.length);
            for (int i = 0; i < shorter; i++) {
                if (at(i) != other.at(i)) {
                    return at(i) < other.at(i) ? -1 : 1;
                }
            }
            return compareNumbers(length, other.length);
        }
    }

    /**
     * One term, or the draft of one. What its kind has no use for is 0 or empty,
     * so that all kinds can be compared by the same chain.
     */
    private static final class Term {
        private int sort;
        private long number;
        private int places;
        private final Row body;
        private final Row tail;

        Term(int bodyRoom, int tailRoom) {
            body = new Row(bodyRoom);
            tail = new Row(tailRoom);
        }

        void become(int newSort, long newNumber, int newPlaces) {
            sort = newSort;
            number = newNumber;
            places = newPlaces;
            body.clear();
            tail.clear();
        }

        /** A copy with no more room than it needs. */
        Term copy() {
            Term made = new Term(body.size(), tail.size());
            made.become(sort, number, places);
            made.body.addAll(body);
            made.tail.addAll(tail);
            return made;
        }

        int bytes() {
            return body.size() + tail.size();
        }

        void leaveOffZeros() {
            for (int left = places; left > 0 && number % 10 == 0; left--) {
                number /= 10;
                places--;
            }
        }

        boolean isOneWith(Term other) {
            return sort == other.sort && number == other.number && places == other.places
                    && body.hasBytesOf(other.body) && tail.hasBytesOf(other.tail);
        }

        /** The place of its kind in the order, where wholes and decimals stand together. */
        int rank() {
            return sort == DECIMAL ? WHOLE : sort;
        }

        boolean hasLess() {
            return rank() == WHOLE || sort == TEXT || sort == TRUTH;
        }

        /** Whether nobody can tell if the value of this type is the other's. */
        boolean isStrangeTo(Term other) {
            return sort == TYPED && other.sort >= WHOLE && other.sort <= TRUTH;
        }

        int orderTo(Term other) {
            int byRank = compareNumbers(rank(), other.rank());
            if (byRank != 0) {
                return byRank;
            }
            int byValue = valueTo(other);
            if (byValue != 0) {
                return byValue;
            }
            int bySort = compareNumbers(sort, other.sort);
            return bySort != 0 ? bySort : tail.orderTo(other.tail);
        }

        /** The order of two terms of one rank by their numbers and bytes alone. */
        int valueTo(Term other) {
            int byWhole = compareNumbers(wholePart(), other.wholePart());
            if (byWhole != 0) {
                return byWhole;
            }
            int byRest = compareNumbers(billionths(), other.billionths());
            return byRest != 0 ? byRest : body.orderTo(other.body);
        }

        private long wholePart() {
            long rest = number;
            for (int i = 0; i < places; i++) {
                rest /= 10;
            }
            return rest;
        }

        /** What is behind the dot, in billionths: two numbers of 18 digits can't be brought to one scale. */
        private long billionths() {
            long back = wholePart();
            for (int i = 0; i < places; i++) {
                back *= 10;
            }
            long rest = number - back;
            for (int i = places; i < MOST_SCALE; i++) {
                rest *= 10;
            }
            return rest;
        }
    }

    /** All terms that there are, by their numbers from 1. */
    private static final class Terms {
        private final Term[] kept;
        private int size;
        private int bytes;

        Terms() {
            kept = new Term[MOST_TERMS];
            size = 0;
            bytes = 0;
        }

        int size() {
            return size;
        }

        int bytes() {
            return bytes;
        }

        Term get(int term) {
            return term >= 1 && term <= size && term <= kept.length ? kept[term - 1] : null;
        }

        int numberOf(Term draft) {
            for (int term = 1; term <= size; term++) {
                Term there = get(term);
                if (there != null && there.isOneWith(draft)) {
                    return term;
                }
            }
            return NO;
        }

        int keep(Term draft) {
            int there = numberOf(draft);
            if (there != NO) {
                return there;
            }
            if (size < 0 || size >= kept.length || bytes + draft.bytes() > MOST_BYTES) {
                return FULL;
            }
            kept[size] = draft.copy();
            size++;
            bytes += draft.bytes();
            return size;
        }
    }

    /**
     * Reads a row into the draft. Each part answers the place behind what it read,
     * or FAILED when it has told the fault.
     */
    private static final class Reader {
        private static final int FAILED = -1;
        private static final int NO_BEGINNING = 1;
        private static final int ENDS = 2;
        private static final int MISPLACED = 3;
        private static final int TOO_MANY = 4;
        private static final int NO_ITEM = 5;
        private static final int TOO_FINE = 6;
        private static final int NOT_ITS_TYPE = 7;
        private static final int BEHIND = 8;

        private final Term draft;
        private int fault;
        private int faultPlace;

        Reader(Term filled) {
            draft = filled;
            fault = 0;
            faultPlace = 0;
        }

        int latestPlace() {
            return faultPlace;
        }

        /** The fault, or 0 when the whole row is the draft's term. */
        int readTerm(Row row) {
            draft.become(0, 0, 0);
            fault = 0;
            faultPlace = row.size();
            int end = readAny(row);
            if (end != FAILED && draft.sort == TYPED) {
                end = settleType(end);
            }
            if (end != FAILED && end < row.size()) {
                fail(BEHIND, end);
            }
            return fault;
        }

        private int readAny(Row row) {
            switch (row.at(0)) {
                case '_':
                    return readBlank(row);
                case '<':
                    draft.sort = NAME;
                    return readName(row, 0, draft.body);
                case '"':
                    return readText(row);
                default:
                    return readPlain(row);
            }
        }

        private int readPlain(Row row) {
            int first = row.at(0);
            if (first == 't') {
                return readTruth(row, "true", 1);
            }
            if (first == 'f') {
                return readTruth(row, "false", 0);
            }
            if (!isSign(first) && !isDigit(first) && first != '.') {
                return fail(NO_BEGINNING, 0);
            }
            int end = readNumber(row);
            if (first == '-') {
                draft.number = -draft.number;
            }
            return end;
        }

        private int readBlank(Row row) {
            draft.sort = BLANK;
            if (row.at(1) != ':') {
                return lacking(row, 1);
            }
            int end = 2;
            for (; end < row.size() && isWordByte(row.at(end)); end++) {
                if (draft.body.size() == MOST_NAME) {
                    return fail(TOO_MANY, end);
                }
                draft.body.add(row.at(end));
            }
            return end == 2 ? lacking(row, end) : end;
        }

        private int readName(Row row, int start, Row into) {
            if (row.at(start) != '<') {
                return lacking(row, start);
            }
            for (int at = start + 1; at < row.size(); at++) {
                int b = row.at(at);
                if (b == '>' && into.size() > 0) {
                    return at + 1;
                }
                if (into.size() == MOST_NAME) {
                    return fail(TOO_MANY, at);
                }
                if (!isNameByte(b)) {
                    return fail(MISPLACED, at);
                }
                into.add(b);
            }
            return fail(ENDS, row.size());
        }

        private int readTruth(Row row, String word, int truth) {
            for (int at = 1; at < word.length(); at++) {
                if (row.at(at) != word.charAt(at)) {
                    return lacking(row, at);
                }
            }
            int end = word.length();
            if (isWordByte(row.at(end))) {
                return fail(MISPLACED, end);
            }
            draft.sort = TRUTH;
            draft.number = truth;
            return end;
        }

        /** A whole or a decimal, without its sign: that is the caller's to set. */
        private int readNumber(Row row) {
            int start = isSign(row.at(0)) ? 1 : 0;
            int dot = readDigits(row, start, MOST_DIGITS);
            if (dot == FAILED) {
                return FAILED;
            }
            if (row.at(dot) != '.') {
                draft.sort = WHOLE;
                return dot == start ? lacking(row, dot) : dot;
            }
            int end = readDigits(row, dot + 1, MOST_DIGITS - (dot - start));
            if (end == FAILED) {
                return FAILED;
            }
            if (end == dot + 1) {
                return lacking(row, end);
            }
            draft.sort = DECIMAL;
            draft.places = end - dot - 1;
            draft.leaveOffZeros();
            return draft.places > MOST_SCALE ? fail(TOO_FINE, 0) : end;
        }

        private int readDigits(Row row, int start, int most) {
            int end = start;
            for (; end < row.size() && isDigit(row.at(end)); end++) {
                if (end - start >= most) {
                    return fail(TOO_MANY, end);
                }
                draft.number = draft.number * 10 + (row.at(end) - '0');
            }
            return end;
        }

        private int readText(Row row) {
            draft.sort = TEXT;
            int end = readItems(row);
            if (end == FAILED) {
                return FAILED;
            }
            switch (row.at(end)) {
                case '@':
                    draft.sort = LANGUAGE;
                    return readTag(row, end + 1);
                case '^':
                    draft.sort = TYPED;
                    return row.at(end + 1) == '^' ? readName(row, end + 2, draft.tail) : lacking(row, end + 1);
                default:
                    return end;
            }
        }

        private int readItems(Row row) {
            int at = 1;
            while (at < row.size()) {
                int b = row.at(at);
                if (b == '"') {
                    return at + 1;
                }
                if (draft.body.size() == MOST_ITEMS) {
                    return fail(TOO_MANY, at);
                }
                if (b == '\\' && at + 1 == row.size()) {
                    return fail(ENDS, at + 1);
                }
                int item = b == '\\' ? escaped(row.at(at + 1)) : b;
                if (item < 0) {
                    return fail(NO_ITEM, at);
                }
                if (b < 32 || b > 126) {
                    return fail(MISPLACED, at);
                }
                draft.body.add(item);
                at += b == '\\' ? 2 : 1;
            }
            return fail(ENDS, row.size());
        }

        private int readTag(Row row, int start) {
            int run = 0;
            boolean first = true;
            for (int at = start; at < row.size(); at++) {
                int b = row.at(at);
                boolean inRun = isLetter(b) || isDigit(b) && !first;
                boolean between = b == '-' && run > 0;
                // A run that has begun may end before any other byte; one that has not needs this one.
                if (!inRun && !between && run > 0) {
                    return at;
                }
                if (draft.tail.size() == MOST_TAG || inRun && run == MOST_RUN) {
                    return fail(TOO_MANY, at);
                }
                if (!inRun && !between) {
                    return fail(MISPLACED, at);
                }
                draft.tail.add(small(b));
                run = between ? 0 : run + 1;
                first = first && !between;
            }
            return run == 0 ? fail(ENDS, row.size()) : row.size();
        }

        /** Four types are no kind of their own: the draft becomes the text, number or truth that it stands for. */
        private int settleType(int end) {
            if (draft.tail.spells("text")) {
                draft.sort = TEXT;
                draft.tail.clear();
                return end;
            }
            int wanted = sortNamed(draft.tail);
            if (wanted == TYPED) {
                return end;
            }
            int bodyEnd = readPlain(draft.body);
            if (bodyEnd != draft.body.size() || draft.sort != wanted) {
                return fail(NOT_ITS_TYPE, 0);
            }
            draft.body.clear();
            draft.tail.clear();
            return end;
        }

        private static int sortNamed(Row name) {
            if (name.spells("whole")) {
                return WHOLE;
            }
            if (name.spells("decimal")) {
                return DECIMAL;
            }
            return name.spells("truth") ? TRUTH : TYPED;
        }

        private int lacking(Row row, int at) {
            return fail(at < row.size() ? MISPLACED : ENDS, at);
        }

        private int fail(int newFault, int at) {
            fault = newFault;
            faultPlace = at;
            return FAILED;
        }

        private static int escaped(int b) {
            switch (b) {
                case '"':
                case '\\':
                    return b;
                case 'n':
                    return '\n';
                case 'r':
                    return '\r';
                case 't':
                    return '\t';
                default:
                    return -1;
            }
        }

        private static boolean isSign(int b) {
            return b == '+' || b == '-';
        }

        private static boolean isDigit(int b) {
            return b >= '0' && b <= '9';
        }

        private static boolean isLetter(int b) {
            return b >= 'a' && b <= 'z' || b >= 'A' && b <= 'Z';
        }

        private static boolean isWordByte(int b) {
            return isLetter(b) || isDigit(b) || b == '_';
        }

        private static boolean isNameByte(int b) {
            switch (b) {
                case '<':
                case '>':
                case '"':
                case '\\':
                case '^':
                case '{':
                case '|':
                case '}':
                case '`':
                    return false;
                default:
                    return b >= 33 && b <= 126;
            }
        }

        private static int small(int b) {
            return b >= 'A' && b <= 'Z' ? b + ('a' - 'A') : b;
        }
    }

    /** Writes terms, and keeps the bytes of the latest one. */
    private static final class Writer {
        private final Row out;
        private final Row digits;

        Writer() {
            out = new Row(MOST_WRITTEN);
            digits = new Row(MOST_DIGITS);
        }

        int byteAt(int i) {
            return i < 0 || i >= out.size() ? BAD : out.at(i);
        }

        int writeTerm(Term term) {
            out.clear();
            switch (term.sort) {
                case BLANK:
                    out.addWord("_:");
                    out.addAll(term.body);
                    break;
                case NAME:
                    addName(term.body);
                    break;
                case WHOLE:
                case DECIMAL:
                    addNumber(term);
                    break;
                case TRUTH:
                    out.addWord(term.number == 1 ? "true" : "false");
                    break;
                default:
                    addText(term);
                    break;
            }
            return out.size();
        }

        private void addName(Row name) {
            out.add('<');
            out.addAll(name);
            out.add('>');
        }

        private void addText(Term term) {
            out.add('"');
            for (int i = 0; i < term.body.size(); i++) {
                addItem(term.body.at(i));
            }
            out.add('"');
            if (term.sort == LANGUAGE) {
                out.add('@');
                out.addAll(term.tail);
            } else if (term.sort == TYPED) {
                out.addWord("^^");
                addName(term.tail);
            }
        }

        private void addItem(int b) {
            switch (b) {
                case '\n':
                    out.addWord("\\n");
                    break;
                case '\r':
                    out.addWord("\\r");
                    break;
                case '\t':
                    out.addWord("\\t");
                    break;
                case '"':
                case '\\':
                    out.add('\\');
                    out.add(b);
                    break;
                default:
                    out.add(b);
                    break;
            }
        }

        private void addNumber(Term term) {
            if (term.number < 0) {
                out.add('-');
            }
            takeDigits(Math.abs(term.number), term.places + 1);
            for (int left = digits.size(); left > 0; left--) {
                if (left == term.places) {
                    out.add('.');
                }
                out.add(digits.at(left - 1));
            }
            if (term.sort == DECIMAL && term.places == 0) {
                out.addWord(".0");
            }
        }

        /** The digits of a number, the last one first, with 0s up to the least length. */
        private void takeDigits(long number, int least) {
            digits.clear();
            long rest = number;
            for (int i = 0; i < MOST_DIGITS && (rest > 0 || i < least); i++) {
                digits.add('0' + (int) (rest % 10));
                rest /= 10;
            }
        }
    }
}
