import java.util.ArrayList;
import java.util.Arrays;

/** Writes replacements: a text with dollars, braces and backslashes, into which goes what groups hold. */
public final class ReplacementWriter {
    private static final int TEXT_MOST = 65536;
    private static final int RESULT_MOST = 262144;
    private static final int GREATEST_GROUP = 99;
    private static final int NAME_MOST = 32;
    // Far above the names that 512 calls can give: each name is fed first.
    private static final int NAMES_KEPT = 512;
    private static final int NUMBER_MOST = 65535;
    private static final int NESTED_MOST = 20;
    private static final int FED_AT_ONCE = 20;

    private static final int UTF = 1;
    private static final int UCP = 2;

    private static final int RICH = 512;
    private static final int EMPTY = 1024;
    private static final int UNKNOWN = 2048;
    private static final int PLAIN = 4096;

    private static final int NOT_UTF8 = -3;
    private static final int BAD_REPLACEMENT = -35;
    private static final int TOO_LONG = -48;
    private static final int NO_SUCH_GROUP = -49;
    private static final int UNSET_GROUP = -55;
    private static final int BAD_ESCAPE = -57;
    private static final int NO_BRACE = -58;

    private final Encoding encoding;
    private final Row text = new Row(TEXT_MOST);
    private final Groups held = new Groups();
    private final Output output;
    private final Writing writing;
    private int lastCode = 0;
    private int lastOffset = -1;

    public ReplacementWriter(int mode) {
        boolean utf = (mode & UTF) != 0;
        encoding = new Encoding(utf);
        output = new Output(encoding, new Cases(utf, (mode & UCP) != 0));
        writing = new Writing(text, held, output, encoding);
    }

    public int feed(int a, int b, int c, int d, int e) throws IllegalStateException {
        if (text.length() + FED_AT_ONCE > TEXT_MOST) {
            throw new IllegalStateException();
        }
        addFourBytes(a);
        addFourBytes(b);
        addFourBytes(c);
        addFourBytes(d);
        addFourBytes(e);
        return text.length();
    }

    private void addFourBytes(int four) {
        text.add(four >>> 24);
        text.add(four >>> 16);
        text.add(four >>> 8);
        text.add(four);
    }

    public int end(int n) throws IllegalArgumentException {
        if (n < 0 || n > text.length()) {
            throw new IllegalArgumentException();
        }
        text.cutTo(n);
        return n;
    }

    public void groups(int n) throws IllegalArgumentException {
        if (n < 0 || n > GREATEST_GROUP) {
            throw new IllegalArgumentException();
        }
        held.startAnew(n);
    }

    public int set(int n) throws IllegalArgumentException, UnsupportedOperationException {
        if (!held.has(n)) {
            throw new IllegalArgumentException();
        }
        if (encoding.firstBad(text) >= 0) {
            text.cutTo(0);
            throw new UnsupportedOperationException();
        }
        held.hold(n, text);
        return takeText();
    }

    public void unset(int n) throws IllegalArgumentException {
        if (!held.has(n)) {
            throw new IllegalArgumentException();
        }
        held.letGo(n);
    }

    public int name(int n) throws IllegalArgumentException, UnsupportedOperationException {
        if (n < 1 || !held.has(n)) {
            throw new IllegalArgumentException();
        }
        if (!Groups.isName(text)) {
            text.cutTo(0);
            throw new UnsupportedOperationException();
        }
        held.giveName(n, text);
        text.cutTo(0);
        return held.namesGiven();
    }

    public int mark() throws UnsupportedOperationException {
        if (encoding.firstBad(text) >= 0) {
            text.cutTo(0);
            throw new UnsupportedOperationException();
        }
        held.holdMark(text);
        return takeText();
    }

    /** Empties the text and answers how many characters it had. */
    private int takeText() {
        int characters = encoding.charactersIn(text);
        text.cutTo(0);
        return characters;
    }

    public int write(int options) throws IllegalArgumentException {
        if ((options & ~(RICH | EMPTY | UNKNOWN | PLAIN)) != 0) {
            throw new IllegalArgumentException();
        }
        output.startAnew();
        writing.startAnew(options);
        int bad = encoding.firstBad(text);
        if (bad >= 0) {
            writing.fail(NOT_UTF8, bad);
        } else if ((options & PLAIN) != 0) {
            output.copy(text, 0, text.length());
        } else {
            writing.writePart(0, text.length(), 0);
        }
        text.cutTo(0);
        lastCode = writing.code();
        lastOffset = writing.offset();
        if (lastCode != 0) {
            output.startAnew();
            return lastCode;
        }
        return output.bytes().length();
    }

    public int result(int i) throws IndexOutOfBoundsException {
        int found = output.bytes().at(i);
        if (found < 0) {
            throw new IndexOutOfBoundsException();
        }
        return found;
    }

    public int fault(int what) throws IllegalArgumentException {
        if (what != 0 && what != 1) {
            throw new IllegalArgumentException();
        }
        return what == 0 ? lastCode : lastOffset;
    }

    public int count(int what) {
        switch (what) {
            case 0:
                return text.length();
            case 1:
                return output.bytes().length();
            case 2:
                return held.greatest();
            case 3:
                return held.namesGiven();
            default:
                return -1;
        }
    }

    /** A row of bytes that grows up to a limit and keeps its room when it is emptied. */
    private static final class Row {
        private static final int FIRST_ROOM = 16;

        private final int most;
        private byte[] bytes = new byte[FIRST_ROOM];
        private int length = 0;

        Row(int most) {
            this.most = most;
        }

        int length() {
            return length;
        }

        /** The byte at an index as 0 .. 255, or -1 where there is none. */
        int at(int index) {
            return index >= 0 && index < length ? bytes[index] & 255 : -1;
        }

        void add(int value) {
            if (length >= most) {
                return;
            }
            if (length >= bytes.length) {
                // By fours, so that all rooms together stay near the last one: none is ever given back.
                bytes = Arrays.copyOf(bytes, 4 * bytes.length);
            }
            bytes[length] = (byte) value;
            length++;
        }

        void cutTo(int newLength) {
            if (newLength >= 0 && newLength < length) {
                length = newLength;
            }
        }

        void become(Row other) {
            if (other.length > bytes.length) {
                bytes = new byte[other.length];
            }
            System.arraycopy(other.bytes, 0, bytes, 0, other.length);
            length = other.length;
        }

        byte[] copyOfBytes() {
            return Arrays.copyOf(bytes, length);
        }
    }

    /** Tells letters and digits of ASCII. */
    private static final class Ascii {
        static boolean isDigit(int c) {
            return c >= '0' && c <= '9';
        }

        static boolean isLetterOrDigit(int c) {
            return isDigit(c) || c >= 'A' && c <= 'Z' || c >= 'a' && c <= 'z';
        }

        static boolean isWord(int c) {
            return c == '_' || isLetterOrDigit(c);
        }

        /** What a digit is worth, or -1 if it is none of that base. */
        static int digit(int c, int base) {
            int worth = -1;
            if (c >= '0' && c <= '9') {
                worth = c - '0';
            } else if (c >= 'a' && c <= 'f') {
                worth = c - 'a' + 10;
            } else if (c >= 'A' && c <= 'F') {
                worth = c - 'A' + 10;
            }
            return worth < base ? worth : -1;
        }
    }

    /** How characters stand in bytes: as UTF-8, or each as one byte. */
    private static final class Encoding {
        private final boolean utf;

        Encoding(boolean utf) {
            this.utf = utf;
        }

        boolean exists(long character) {
            if (!utf) {
                return character >= 0 && character <= 0xFF;
            }
            return character >= 0 && character <= 0x10FFFF && (character < 0xD800 || character > 0xDFFF);
        }

        /** How many bytes a character takes. */
        int lengthOf(int character) {
            if (!utf || character < 0x80) {
                return 1;
            }
            if (character < 0x800) {
                return 2;
            }
            return character < 0x10000 ? 3 : 4;
        }

        /** How many bytes the character takes that begins with this byte; 0 if none does. */
        int lengthBehind(int lead) {
            if (!utf || lead < 0x80) {
                return 1;
            }
            if (lead < 0xC2 || lead > 0xF4) {
                return 0;
            }
            if (lead < 0xE0) {
                return 2;
            }
            return lead < 0xF0 ? 3 : 4;
        }

        /** The character at an offset of a text that has been looked at. */
        int characterAt(Row row, int at) {
            int lead = row.at(at);
            int length = lengthBehind(lead);
            if (length < 2) {
                return lead;
            }
            int character = lead & (0x7F >> length);
            for (int i = 1; i < length; i++) {
                character = character << 6 | row.at(at + i) & 0x3F;
            }
            return character;
        }

        /** The offset of the first character that is not as it must be, or -1. */
        int firstBad(Row row) {
            if (!utf) {
                return -1;
            }
            for (int at = 0; at < row.length(); at += Math.max(1, lengthBehind(row.at(at)))) {
                if (!isGood(row, at)) {
                    return at;
                }
            }
            return -1;
        }

        private boolean isGood(Row row, int at) {
            int length = lengthBehind(row.at(at));
            if (length == 0) {
                return false;
            }
            for (int i = 1; i < length; i++) {
                if ((row.at(at + i) & 0xC0) != 0x80) {
                    return false;
                }
            }
            int character = characterAt(row, at);
            return exists(character) && lengthOf(character) == length;
        }

        int charactersIn(Row row) {
            int characters = 0;
            for (int at = 0; at < row.length(); at++) {
                if (!utf || (row.at(at) & 0xC0) != 0x80) {
                    characters++;
                }
            }
            return characters;
        }
    }

    /** How a character is turned. */
    private enum Turn { AS_IT_IS, UPPER, LOWER }

    /** The upper and lower ones of characters. */
    private static final class Cases {
        private static final int COLUMNS = 5;
        private static final int BOTH_WAYS = 0;
        private static final int UP_ALONE = 1;
        private static final int DOWN_ALONE = 2;
        // Of each row the first and the last upper one, the step between them, how far the lower one is from
        // its upper one, and the ways to go. What goes one way alone is the third one of its case.
        private static final int[] PAIRS = {
            0x41, 0x5A, 1, 0x20, BOTH_WAYS,
            0xC0, 0xD6, 1, 0x20, BOTH_WAYS,
            0xD8, 0xDE, 1, 0x20, BOTH_WAYS,
            0x100, 0x12E, 2, 1, BOTH_WAYS,
            0x132, 0x136, 2, 1, BOTH_WAYS,
            0x139, 0x147, 2, 1, BOTH_WAYS,
            0x14A, 0x176, 2, 1, BOTH_WAYS,
            0x178, 0x178, 1, 0xFF - 0x178, BOTH_WAYS,
            0x179, 0x17D, 2, 1, BOTH_WAYS,
            0x391, 0x3A1, 1, 0x20, BOTH_WAYS,
            0x3A3, 0x3A9, 1, 0x20, BOTH_WAYS,
            0x400, 0x40F, 1, 0x50, BOTH_WAYS,
            0x410, 0x42F, 1, 0x20, BOTH_WAYS,
            0x53, 0x53, 1, 0x17F - 0x53, UP_ALONE,
            0x39C, 0x39C, 1, 0xB5 - 0x39C, UP_ALONE,
            0x3A3, 0x3A3, 1, 0x3C2 - 0x3A3, UP_ALONE,
            0x212A, 0x212A, 1, 0x6B - 0x212A, DOWN_ALONE,
            0x212B, 0x212B, 1, 0xE5 - 0x212B, DOWN_ALONE,
        };
        private static final int ASCII_END = COLUMNS;
        private static final int BYTES_END = 3 * COLUMNS;

        private final int pairsEnd;

        Cases(boolean utf, boolean ucp) {
            pairsEnd = utf ? PAIRS.length : ucp ? BYTES_END : ASCII_END;
        }

        int turned(int character, Turn turn) {
            if (turn == Turn.AS_IT_IS) {
                return character;
            }
            boolean up = turn == Turn.UPPER;
            int barred = up ? DOWN_ALONE : UP_ALONE;
            for (int pair = 0; pair < pairsEnd; pair += COLUMNS) {
                int distance = PAIRS[pair + 3];
                int upper = up ? character - distance : character;
                if (PAIRS[pair + 4] != barred && isUpperOf(pair, upper)) {
                    return up ? upper : upper + distance;
                }
            }
            return character;
        }

        private static boolean isUpperOf(int pair, int character) {
            int first = PAIRS[pair];
            boolean isBetweenSteps = PAIRS[pair + 2] == 2 && ((character - first) & 1) != 0;
            return character >= first && character <= PAIRS[pair + 1] && !isBetweenSteps;
        }
    }

    /** A name and the group that bears it. */
    private static final class Name {
        private final byte[] letters;
        private final int group;

        Name(byte[] letters, int group) {
            this.letters = letters;
            this.group = group;
        }

        boolean stands(Row row, int from, int to) {
            if (to - from != letters.length) {
                return false;
            }
            for (int i = 0; i < letters.length; i++) {
                if (row.at(from + i) != letters[i]) {
                    return false;
                }
            }
            return true;
        }
    }

    /** What the groups hold, their names, and the mark. */
    private static final class Groups {
        private static final int UNSET = -1;
        private static final int MISSING = -2;

        private final Row[] texts = new Row[GREATEST_GROUP + 1];
        private final boolean[] isSet = new boolean[GREATEST_GROUP + 1];
        private final ArrayList<Name> names = new ArrayList<>();
        private final Row markText = new Row(TEXT_MOST);
        private int greatest = 0;
        private int namesGiven = 0;

        Groups() {
            for (int i = 0; i < texts.length; i++) {
                texts[i] = new Row(TEXT_MOST);
            }
        }

        void startAnew(int newGreatest) {
            greatest = newGreatest;
            for (int i = 0; i < isSet.length; i++) {
                isSet[i] = false;
            }
            names.clear();
            namesGiven = 0;
            markText.cutTo(0);
        }

        int greatest() {
            return greatest;
        }

        int namesGiven() {
            return namesGiven;
        }

        Row markText() {
            return markText;
        }

        boolean has(int group) {
            return group >= 0 && group <= greatest;
        }

        void hold(int group, Row row) {
            texts[group].become(row);
            isSet[group] = true;
        }

        void letGo(int group) {
            isSet[group] = false;
        }

        void holdMark(Row row) {
            markText.become(row);
        }

        Row textOf(int group) {
            return texts[group];
        }

        static boolean isName(Row row) {
            if (row.length() < 1 || row.length() > NAME_MOST || Ascii.isDigit(row.at(0))) {
                return false;
            }
            for (int i = 0; i < row.length(); i++) {
                if (!Ascii.isWord(row.at(i))) {
                    return false;
                }
            }
            return true;
        }

        void giveName(int group, Row row) {
            namesGiven++;
            for (int i = 0; i < names.size(); i++) {
                Name known = names.get(i);
                if (known.group == group && known.stands(row, 0, row.length())) {
                    return;
                }
            }
            if (names.size() < NAMES_KEPT) {
                names.add(new Name(row.copyOfBytes(), group));
            }
        }

        /** The group if it is set, else UNSET or MISSING. */
        int numbered(int group) {
            if (!has(group)) {
                return MISSING;
            }
            return isSet[group] ? group : UNSET;
        }

        /** The least set group with the name that stands there, else UNSET or MISSING. */
        int named(Row row, int from, int to) {
            int found = MISSING;
            for (int i = 0; i < names.size(); i++) {
                Name known = names.get(i);
                if (!known.stands(row, from, to)) {
                    continue;
                }
                if (isSet[known.group]) {
                    found = found < 0 ? known.group : Math.min(found, known.group);
                } else if (found == MISSING) {
                    found = UNSET;
                }
            }
            return found;
        }
    }

    /** The result, and how what comes to it is turned. */
    private static final class Output {
        private final Encoding encoding;
        private final Cases cases;
        private final Row bytes = new Row(RESULT_MOST);
        private Turn steadyTurn = Turn.AS_IT_IS;
        private Turn nextTurn = Turn.AS_IT_IS;
        private boolean isFull = false;

        Output(Encoding encoding, Cases cases) {
            this.encoding = encoding;
            this.cases = cases;
        }

        void startAnew() {
            bytes.cutTo(0);
            steadyTurn = Turn.AS_IT_IS;
            nextTurn = Turn.AS_IT_IS;
            isFull = false;
        }

        Row bytes() {
            return bytes;
        }

        boolean isFull() {
            return isFull;
        }

        void turnFromHere(Turn turn) {
            steadyTurn = turn;
        }

        void turnNext(Turn turn) {
            nextTurn = turn;
        }

        void copy(Row row, int from, int to) {
            for (int at = from; at < to && !isFull; at += Math.max(1, encoding.lengthBehind(row.at(at)))) {
                put(encoding.characterAt(row, at));
            }
        }

        void put(int character) {
            int turned = cases.turned(character, nextTurn == Turn.AS_IT_IS ? steadyTurn : nextTurn);
            nextTurn = Turn.AS_IT_IS;
            int length = encoding.lengthOf(turned);
            if (bytes.length() + length > RESULT_MOST) {
                isFull = true;
                return;
            }
            if (length == 1) {
                bytes.add(turned);
                return;
            }
            bytes.add(0xF00 >> length | turned >> 6 * (length - 1));
            for (int i = length - 2; i >= 0; i--) {
                bytes.add(0x80 | turned >> 6 * i & 0x3F);
            }
        }
    }

    /** Reads the character that a backslash and what is behind it stand for. */
    private static final class Escape {
        private static final int DIGITS_BARE = 2;
        private static final int DIGITS_BRACED = 8;

        private final Row text;
        private final Encoding encoding;
        private int character = 0;
        private int next = 0;

        Escape(Row text, Encoding encoding) {
            this.text = text;
            this.encoding = encoding;
        }

        int character() {
            return character;
        }

        int next() {
            return next;
        }

        /** Reads from behind the backslash; false if no character is meant there. */
        boolean read(int at, int to) {
            switch (at < to ? text.at(at) : -1) {
                case 'a':
                    return found(0x07, at + 1);
                case 'e':
                    return found(0x1B, at + 1);
                case 'f':
                    return found(0x0C, at + 1);
                case 'n':
                    return found(0x0A, at + 1);
                case 'r':
                    return found(0x0D, at + 1);
                case 't':
                    return found(0x09, at + 1);
                case 'c':
                    return readControl(at + 1, to);
                case '0':
                    return readBare(at + 1, to, 8);
                case 'o':
                    return readBraced(at + 1, to, 8);
                case 'x':
                    boolean braced = at + 1 < to && text.at(at + 1) == '{';
                    return braced ? readBraced(at + 1, to, 16) : readBare(at + 1, to, 16);
                default:
                    return false;
            }
        }

        private boolean found(int newCharacter, int newNext) {
            character = newCharacter;
            next = newNext;
            return true;
        }

        private boolean readControl(int at, int to) {
            int key = at < to ? text.at(at) : -1;
            if (key < 0x20 || key > 0x7E) {
                return false;
            }
            int upper = key >= 'a' && key <= 'z' ? key - 0x20 : key;
            return found(upper ^ 0x40, at + 1);
        }

        private boolean readBare(int from, int to, int base) {
            int end = digitsEnd(from, Math.min(to, from + DIGITS_BARE), base);
            return found((int) valueOf(from, end, base), end);
        }

        private boolean readBraced(int at, int to, int base) {
            if (at >= to || text.at(at) != '{') {
                return false;
            }
            int from = at + 1;
            int end = digitsEnd(from, Math.min(to, from + DIGITS_BRACED), base);
            if (end == from || end >= to || text.at(end) != '}') {
                return false;
            }
            long value = valueOf(from, end, base);
            return encoding.exists(value) && found((int) value, end + 1);
        }

        private int digitsEnd(int from, int to, int base) {
            int end = from;
            while (end < to && Ascii.digit(text.at(end), base) >= 0) {
                end++;
            }
            return end;
        }

        private long valueOf(int from, int to, int base) {
            long value = 0;
            for (int i = from; i < to; i++) {
                value = value * base + Ascii.digit(text.at(i), base);
            }
            return value;
        }
    }

    /** Goes through a text with dollars and backslashes and writes it to the output. */
    private static final class Writing {
        private final Row text;
        private final Groups held;
        private final Output output;
        private final Encoding encoding;
        private final Escape escape;
        private boolean rich = false;
        private boolean unsetIsEmpty = false;
        private boolean unknownIsUnset = false;
        private int code = 0;
        private int offset = -1;

        Writing(Row text, Groups held, Output output, Encoding encoding) {
            this.text = text;
            this.held = held;
            this.output = output;
            this.encoding = encoding;
            escape = new Escape(text, encoding);
        }

        void startAnew(int options) {
            rich = (options & RICH) != 0;
            unsetIsEmpty = (options & EMPTY) != 0;
            unknownIsUnset = (options & UNKNOWN) != 0;
            code = 0;
            offset = -1;
        }

        int code() {
            return code;
        }

        int offset() {
            return offset;
        }

        /** Keeps the first code that is met; answers an offset from which nothing more is written. */
        int fail(int newCode, int newOffset) {
            if (code == 0) {
                code = newCode;
                offset = newOffset;
            }
            return text.length();
        }

        private void writePart(int from, int to, int depth) {
            int at = from;
            while (at < to && code == 0) {
                int next;
                int c = text.at(at);
                if (c == '$') {
                    next = writeDollar(at, to, depth);
                } else if (c == '\\' && rich) {
                    next = writeBackslash(at, to);
                } else {
                    next = writeCharacter(at);
                }
                if (output.isFull()) {
                    fail(TOO_LONG, -1);
                }
                // A byte further at least: so the loop's end can be seen here.
                at = Math.max(at + 1, next);
            }
        }

        private int peek(int at, int to) {
            return at < to ? text.at(at) : -1;
        }

        private int writeCharacter(int at) {
            output.put(encoding.characterAt(text, at));
            return at + encoding.lengthBehind(text.at(at));
        }

        private int writeDollar(int at, int to, int depth) {
            boolean braced = peek(at + 1, to) == '{';
            int from = braced ? at + 2 : at + 1;
            if (peek(from, to) == '$' && !braced) {
                output.put('$');
                return from + 1;
            }
            if (peek(from, to) == '*') {
                return writeMark(at, to, braced);
            }
            int end = referenceEnd(from, to);
            if (end == from) {
                return fail(BAD_REPLACEMENT, at);
            }
            if (!braced) {
                return writeGroup(at, from, end, end);
            }
            if (peek(end, to) == '}') {
                return writeGroup(at, from, end, end + 1);
            }
            int sign = peek(end, to) == ':' ? peek(end + 1, to) : -1;
            if (!rich || sign != '-' && sign != '+') {
                return fail(NO_BRACE, at);
            }
            return writeChoice(at, from, end, to, depth);
        }

        private int writeMark(int at, int to, boolean braced) {
            int word = braced ? at + 3 : at + 2;
            int end = word + 4;
            boolean isThere = peek(word, to) == 'M' && peek(word + 1, to) == 'A'
                && peek(word + 2, to) == 'R' && peek(word + 3, to) == 'K';
            if (!isThere) {
                return fail(BAD_REPLACEMENT, at);
            }
            if (braced && peek(end, to) != '}') {
                return fail(NO_BRACE, at);
            }
            output.copy(held.markText(), 0, held.markText().length());
            return braced ? end + 1 : end;
        }

        /** Where the number or the name ends that begins there; where it begins if there is none. */
        private int referenceEnd(int from, int to) {
            int end = from;
            if (Ascii.isDigit(peek(from, to))) {
                while (end < to && Ascii.isDigit(text.at(end))) {
                    end++;
                }
                return end;
            }
            int last = Math.min(to, from + NAME_MOST);
            while (end < last && Ascii.isWord(text.at(end))) {
                end++;
            }
            return end;
        }

        /** The set group that a number or a name tells, else UNSET or MISSING. */
        private int groupFor(int from, int end) {
            int group;
            if (Ascii.isDigit(text.at(from))) {
                int number = 0;
                for (int i = from; i < end; i++) {
                    number = Math.min(NUMBER_MOST, number * 10 + text.at(i) - '0');
                }
                group = held.numbered(number);
            } else {
                group = held.named(text, from, end);
            }
            return group == Groups.MISSING && unknownIsUnset ? Groups.UNSET : group;
        }

        private int writeGroup(int at, int from, int end, int next) {
            int group = groupFor(from, end);
            if (group == Groups.MISSING) {
                return fail(NO_SUCH_GROUP, at);
            }
            if (group == Groups.UNSET) {
                return unsetIsEmpty ? next : fail(UNSET_GROUP, at);
            }
            output.copy(held.textOf(group), 0, held.textOf(group).length());
            return next;
        }

        /** Writes what :- or :+ chooses; the faults are looked for in the order that the document tells. */
        private int writeChoice(int at, int from, int end, int to, int depth) {
            boolean isDefault = peek(end + 1, to) == '-';
            int one = end + 2;
            int oneEnd = partEnd(one, to, !isDefault);
            boolean hasTwo = peek(oneEnd, to) == ':';
            int close = hasTwo ? partEnd(oneEnd + 1, to, false) : oneEnd;
            if (close >= to) {
                return fail(NO_BRACE, at);
            }
            if (depth >= NESTED_MOST) {
                return fail(BAD_REPLACEMENT, at);
            }
            int group = groupFor(from, end);
            if (group == Groups.MISSING) {
                return fail(NO_SUCH_GROUP, at);
            }
            boolean isSet = group != Groups.UNSET;
            if (isDefault && isSet) {
                output.copy(held.textOf(group), 0, held.textOf(group).length());
            } else if (isDefault || isSet) {
                writePart(one, oneEnd, depth + 1);
            } else if (hasTwo) {
                writePart(oneEnd + 1, close, depth + 1);
            }
            return close + 1;
        }

        /** Where the part ends that begins there, by its brace or, if asked for, its colon; to if nowhere. */
        private int partEnd(int from, int to, boolean colonEnds) {
            int open = 0;
            for (int at = from; at < to; at++) {
                int c = text.at(at);
                if (c == '\\') {
                    at++;
                } else if (c == '$' && peek(at + 1, to) == '{') {
                    open++;
                    at++;
                } else if (open == 0 && (c == '}' || c == ':' && colonEnds)) {
                    return at;
                } else if (c == '}') {
                    open--;
                }
            }
            return to;
        }

        private int writeBackslash(int at, int to) {
            int next = at + 2;
            int c = peek(at + 1, to);
            switch (c) {
                case 'Q':
                    return writeQuoted(next, to);
                case 'E':
                    output.turnFromHere(Turn.AS_IT_IS);
                    return next;
                case 'U':
                    output.turnFromHere(Turn.UPPER);
                    return next;
                case 'L':
                    output.turnFromHere(Turn.LOWER);
                    return next;
                case 'u':
                    output.turnNext(Turn.UPPER);
                    return next;
                case 'l':
                    output.turnNext(Turn.LOWER);
                    return next;
                default:
                    break;
            }
            if (c >= 0 && !Ascii.isLetterOrDigit(c)) {
                return writeCharacter(at + 1);
            }
            if (!escape.read(at + 1, to)) {
                return fail(BAD_ESCAPE, at);
            }
            output.put(escape.character());
            return escape.next();
        }

        private int writeQuoted(int from, int to) {
            int end = from;
            while (end < to && !(text.at(end) == '\\' && peek(end + 1, to) == 'E')) {
                end++;
            }
            output.copy(text, from, end);
            return end + 2;
        }
    }
}
