import java.util.Arrays;

/**
 * Reads texts as schemas, tells their plain form and its print, keeps them at places, and
 * says whether what one kept schema says can always be told as another one.
 */
public final class SchemaReader {
    public static final int NONE = -1;

    private static final int TAPE_MOST = 4096;
    private static final int FED_AT_ONCE = 20;
    private static final int PLACES = 8;
    private static final long PRINT_START = 0xC15D213AA4D7A795L;

    private final Text text;
    private final Couples dueDefaults;
    private final Couples askedRecords;
    private final Schema[] kept;
    private final long[] printSteps;
    private Schema latest;
    private boolean hasLatest;
    private int faultPlace;
    private int keptCount;

    public SchemaReader() {
        text = new Text();
        kept = new Schema[PLACES];
        printSteps = new long[256];
        for (int i = 0; i < printSteps.length; i++) {
            printSteps[i] = printStep(i);
        }
        latest = new Schema();
        dueDefaults = new Couples();
        askedRecords = new Couples();
        hasLatest = false;
        faultPlace = NONE;
        keptCount = 0;
    }

    public int feed(int a, int b, int c, int d, int e) throws IllegalStateException {
        if (text.length() + FED_AT_ONCE > TAPE_MOST) {
            throw new IllegalStateException("the tape has no room for twenty bytes");
        }
        text.append(a);
        text.append(b);
        text.append(c);
        text.append(d);
        text.append(e);
        return text.length();
    }

    public void end(int n) throws IllegalArgumentException {
        if (n < 0 || n > text.length()) {
            throw new IllegalArgumentException("the tape cannot be cut there");
        }
        text.cut(n);
    }

    public int schema() {
        Looker looker = new Looker(text, latest, dueDefaults);
        int fault = looker.read();
        hasLatest = fault == 0;
        faultPlace = looker.faultPlace();
        return fault;
    }

    public int place() {
        return faultPlace;
    }

    public int size() {
        return hasLatest ? latest.letterCount() : 0;
    }

    public int letter(int i) throws IndexOutOfBoundsException {
        if (!hasLatest || i < 0 || i >= latest.letterCount()) {
            throw new IndexOutOfBoundsException("the plain form has no such byte");
        }
        return latest.letterAt(i);
    }

    public long print() {
        if (!hasLatest) {
            return 0;
        }
        long p = PRINT_START;
        for (int i = 0; i < latest.letterCount(); i++) {
            int step = (int) (p ^ latest.letterAt(i)) & 255;
            p = (p >>> 8) ^ printSteps[step];
        }
        return p;
    }

    public int keep(int place) throws IndexOutOfBoundsException, IllegalStateException {
        if (!isPlace(place)) {
            throw new IndexOutOfBoundsException("there is no such place");
        }
        if (!hasLatest) {
            throw new IllegalStateException("there is no latest schema");
        }
        Schema before = kept[place];
        kept[place] = latest;
        hasLatest = false;
        // The rows of what was kept there serve the next schema, so that few are ever made.
        if (before == null) {
            keptCount++;
            latest = new Schema();
        } else {
            latest = before;
        }
        return keptCount;
    }

    public boolean fits(int w, int r) throws IndexOutOfBoundsException, IllegalStateException {
        return pairOf(w, r).isWholeFit();
    }

    public boolean matches(int w, int r) throws IndexOutOfBoundsException, IllegalStateException {
        return pairOf(w, r).isMatch(0, 0);
    }

    private Pair pairOf(int w, int r) {
        if (!isPlace(w) || !isPlace(r)) {
            throw new IndexOutOfBoundsException("there is no such place");
        }
        Schema writer = kept[w];
        Schema reader = kept[r];
        if (writer == null || reader == null) {
            throw new IllegalStateException("a place keeps no schema");
        }
        return new Pair(writer, reader, askedRecords);
    }

    private static boolean isPlace(int place) {
        return place >= 0 && place < PLACES;
    }

    private static long printStep(int i) {
        long step = i;
        for (int bit = 0; bit < 8; bit++) {
            boolean isOdd = (step & 1) == 1;
            step >>>= 1;
            if (isOdd) {
                step ^= PRINT_START;
            }
        }
        return step;
    }

    private static int entry(int[] row, int i) {
        return i >= 0 && i < row.length ? row[i] : NONE;
    }

    private static void enter(int[] row, int i, int number) {
        if (i >= 0 && i < row.length) {
            row[i] = number;
        }
    }

    private static boolean isDigit(int b) {
        return b >= '0' && b <= '9';
    }

    private static boolean isLetter(int b) {
        return b >= 'a' && b <= 'z' || b >= 'A' && b <= 'Z';
    }

    /** What schemas may be; the order puts the six words first, those with names last but the union. */
    private static final class Kind {
        static final int NULL = 0;
        static final int BOOLEAN = 1;
        static final int INT = 2;
        static final int LONG = 3;
        static final int BYTES = 4;
        static final int STRING = 5;
        static final int ARRAY = 6;
        static final int MAP = 7;
        static final int FIXED = 8;
        static final int ENUM = 9;
        static final int RECORD = 10;
        static final int UNION = 11;

        static boolean isNamed(int kind) {
            return kind == FIXED || kind == ENUM || kind == RECORD;
        }

        static String word(int kind) {
            switch (kind) {
                case NULL: return "null";
                case BOOLEAN: return "boolean";
                case INT: return "int";
                case LONG: return "long";
                case BYTES: return "bytes";
                case STRING: return "string";
                case ARRAY: return "array";
                case MAP: return "map";
                case FIXED: return "fixed";
                case ENUM: return "enum";
                case RECORD: return "record";
                default: return "";
            }
        }

        /** The kind whose word the string says, or NONE. */
        static int said(Text text, int string) {
            for (int kind = NULL; kind <= RECORD; kind++) {
                if (text.says(string, word(kind))) {
                    return kind;
                }
            }
            return NONE;
        }
    }

    private static final class Fault {
        static final int TEXT = 1;
        static final int NO_SCHEMA = 2;
        static final int UNKNOWN_NAME = 3;
        static final int UNION_IN_UNION = 4;
        static final int BRANCH_COUNT = 5;
        static final int BRANCH_TWICE = 6;
        static final int NO_TYPE = 7;
        static final int MEMBER_LACKS = 8;
        static final int BAD_NAME = 9;
        static final int BAD_SIZE = 10;
        static final int BAD_LIST = 11;
        static final int BAD_DEFAULT = 12;
        static final int TOO_MANY = 13;
        static final int TOO_DEEP = 14;
    }

    /**
     * The tape and the values on it. A value, and a member's string, is known by the place of
     * its first byte; the rows tell at that place what belongs to it.
     */
    private static final class Text {
        static final int DEEPEST = 24;
        private static final int NAME_MOST = 32;
        private static final int BYTE_MOST = 255;
        private static final long LONG_TENTH = 922337203685477580L;

        private final byte[] tape = new byte[TAPE_MOST];
        // The bytes a string stands for begin at the string's own place: they are never more.
        private final byte[] said = new byte[TAPE_MOST];
        private final int[] inner = new int[TAPE_MOST];
        private final int[] next = new int[TAPE_MOST];
        private final int[] amount = new int[TAPE_MOST];
        private final Keys keys = new Keys();
        private int length = 0;
        private int wrongPlace = NONE;

        int length() {
            return length;
        }

        void append(int number) {
            for (int shift = 24; shift >= 0 && length < tape.length; shift -= 8) {
                tape[length] = (byte) (number >>> shift);
                length++;
            }
        }

        void cut(int n) {
            if (n >= 0 && n <= length) {
                length = n;
            }
        }

        int wrongPlace() {
            return wrongPlace;
        }

        int byteAt(int p) {
            return p >= 0 && p < length ? tape[p] & 255 : NONE;
        }

        boolean isString(int p) {
            return byteAt(p) == '"';
        }

        boolean isList(int p) {
            return byteAt(p) == '[';
        }

        boolean isObject(int p) {
            return byteAt(p) == '{';
        }

        boolean isNumber(int p) {
            int b = byteAt(p);
            return b == '-' || isDigit(b);
        }

        /** The first value of a list, the first string of an object's members, the value of a member's string. */
        int inner(int p) {
            return entry(inner, p);
        }

        /** The value behind one in a list, the member's string behind one in an object. */
        int next(int p) {
            return entry(next, p);
        }

        /** How many bytes a string stands for, how many values or members a list or object has. */
        int amount(int p) {
            return entry(amount, p);
        }

        int saidAt(int p) {
            return p >= 0 && p < said.length ? said[p] & 255 : NONE;
        }

        boolean says(int string, String word) {
            if (byteAt(string) != '"' || entry(amount, string) != word.length()) {
                return false;
            }
            for (int i = 0; i < word.length(); i++) {
                if (saidAt(string + i) != word.charAt(i)) {
                    return false;
                }
            }
            return true;
        }

        boolean saysSame(int string, int other) {
            int n = entry(amount, string);
            if (n != entry(amount, other)) {
                return false;
            }
            for (int i = 0; i < n; i++) {
                if (saidAt(string + i) != saidAt(other + i)) {
                    return false;
                }
            }
            return true;
        }

        /** A number that two strings share if they say the same. */
        int hash(int string) {
            int n = entry(amount, string);
            int sum = n;
            for (int i = 0; i < n; i++) {
                sum = sum * 31 + saidAt(string + i);
            }
            return sum;
        }

        boolean saysName(int string) {
            int n = amount(string);
            if (!isString(string) || n < 1 || n > NAME_MOST || isDigit(saidAt(string))) {
                return false;
            }
            for (int i = 0; i < n; i++) {
                int b = saidAt(string + i);
                if (!isLetter(b) && !isDigit(b) && b != '_') {
                    return false;
                }
            }
            return true;
        }

        /** The value of the object's member of that name, or NONE. */
        int member(int object, String name) {
            int key = inner(object);
            for (int i = 0; i < amount(object); i++) {
                if (says(key, name)) {
                    return inner(key);
                }
                key = next(key);
            }
            return NONE;
        }

        long numberAt(int p) {
            boolean isNegative = byteAt(p) == '-';
            long n = 0;
            for (int q = isNegative ? p + 1 : p; q < length && isDigit(byteAt(q)); q++) {
                n = n * 10 - (byteAt(q) - '0');
            }
            return isNegative ? n : -n;
        }

        /** Reads the whole tape: the place of its value, or NONE, and then wrongPlace tells where. */
        int read() {
            keys.clear();
            wrongPlace = NONE;
            int start = behindBlanks(0);
            int behind = readValue(start, 0);
            if (behind == NONE) {
                return NONE;
            }
            behind = behindBlanks(behind);
            return behind < length ? refuse(behind) : start;
        }

        private int refuse(int p) {
            wrongPlace = p;
            return NONE;
        }

        private int behindBlanks(int p) {
            int q = p;
            while (q < length && isBlank(byteAt(q))) {
                q++;
            }
            return q;
        }

        private static boolean isBlank(int b) {
            return b == ' ' || b == '\n' || b == '\r' || b == '\t';
        }

        /** Reads the value at p that lies in that many brackets: the place behind it, or NONE. */
        private int readValue(int p, int depth) {
            switch (byteAt(p)) {
                case '{':
                case '[': return readGroup(p, depth);
                case '"': return readString(p);
                case 't': return readWord(p, "true");
                case 'f': return readWord(p, "false");
                case 'n': return readWord(p, "null");
                default: return isNumber(p) ? readNumber(p) : refuse(p);
            }
        }

        private int readGroup(int p, int depth) {
            if (depth >= DEEPEST) {
                return refuse(p);
            }
            int close = isObject(p) ? '}' : ']';
            enter(amount, p, 0);
            enter(inner, p, NONE);
            int part = behindBlanks(p + 1);
            if (byteAt(part) == close) {
                return part + 1;
            }
            int last = NONE;
            for (int count = 1; count <= length; count++) {
                int value = isObject(p) ? readKey(p, part) : part;
                int behind = value == NONE ? NONE : readValue(value, depth + 1);
                if (behind == NONE) {
                    return NONE;
                }
                join(p, last, part);
                enter(amount, p, count);
                int mark = behindBlanks(behind);
                if (byteAt(mark) == close) {
                    return mark + 1;
                }
                if (byteAt(mark) != ',') {
                    return refuse(mark);
                }
                last = part;
                part = behindBlanks(mark + 1);
            }
            return refuse(length);
        }

        private void join(int group, int last, int part) {
            if (last == NONE) {
                enter(inner, group, part);
            } else {
                enter(next, last, part);
            }
            enter(next, part, NONE);
        }

        /** Reads a member's string and its colon: the place of the member's value, or NONE. */
        private int readKey(int object, int p) {
            if (!isString(p)) {
                return refuse(p);
            }
            int behind = readString(p);
            if (behind == NONE) {
                return NONE;
            }
            if (!keys.add(this, object, p)) {
                return refuse(p);
            }
            int colon = behindBlanks(behind);
            if (byteAt(colon) != ':') {
                return refuse(colon);
            }
            int value = behindBlanks(colon + 1);
            enter(inner, p, value);
            return value;
        }

        private int readString(int p) {
            int count = 0;
            for (int q = p + 1; q < length; q++) {
                int b = byteAt(q);
                if (b == '"') {
                    enter(amount, p, count);
                    return q + 1;
                }
                if (b < 32 || b > 126) {
                    return refuse(q);
                }
                if (b == '\\') {
                    b = readEscape(q);
                    if (b == NONE) {
                        return NONE;
                    }
                    q += byteAt(q + 1) == 'u' ? 5 : 1;
                }
                say(p + count, b);
                count++;
            }
            return refuse(length);
        }

        private void say(int p, int b) {
            if (p >= 0 && p < said.length) {
                said[p] = (byte) b;
            }
        }

        /** The byte for which the escape at p stands, or NONE. */
        private int readEscape(int p) {
            int b = byteAt(p + 1);
            switch (b) {
                case '"':
                case '\\':
                case '/': return b;
                case 'b': return '\b';
                case 'f': return '\f';
                case 'n': return '\n';
                case 'r': return '\r';
                case 't': return '\t';
                case 'u': break;
                default: return refuse(p + 1);
            }
            int number = 0;
            for (int q = p + 2; q < p + 6; q++) {
                int digit = hexDigit(byteAt(q));
                if (digit == NONE) {
                    return refuse(q);
                }
                number = number * 16 + digit;
            }
            return number > BYTE_MOST ? refuse(p) : number;
        }

        private static int hexDigit(int b) {
            if (b >= '0' && b <= '9') {
                return b - '0';
            }
            if (b >= 'a' && b <= 'f') {
                return b - 'a' + 10;
            }
            return b >= 'A' && b <= 'F' ? b - 'A' + 10 : NONE;
        }

        private int readNumber(int p) {
            boolean isNegative = byteAt(p) == '-';
            int first = isNegative ? p + 1 : p;
            if (!isDigit(byteAt(first))) {
                return refuse(first);
            }
            int behind = first + 1;
            if (byteAt(first) != '0') {
                while (behind < length && isDigit(byteAt(behind))) {
                    behind++;
                }
            }
            return isWithinLong(first, behind, isNegative) ? behind : refuse(p);
        }

        private boolean isWithinLong(int first, int behind, boolean isNegative) {
            int lastDigit = isNegative ? 8 : 7;
            // Counted below 0, as -2^63 has no opposite.
            long n = 0;
            for (int q = first; q < behind; q++) {
                int digit = byteAt(q) - '0';
                if (n < -LONG_TENTH || n == -LONG_TENTH && digit > lastDigit) {
                    return false;
                }
                n = n * 10 - digit;
            }
            return true;
        }

        private int readWord(int p, String word) {
            for (int i = 0; i < word.length(); i++) {
                if (byteAt(p + i) != word.charAt(i)) {
                    return refuse(p + i);
                }
            }
            return p + word.length();
        }
    }

    /** The strings of all members of all objects of a text, to find one that its object has already. */
    private static final class Keys {
        // A member takes five bytes of the tape at least, so there are never as many.
        private static final int MOST = 1024;
        private static final int BUCKETS = 256;

        private final int[] heads = new int[BUCKETS];
        private final int[] places = new int[MOST];
        private final int[] owners = new int[MOST];
        private final int[] nexts = new int[MOST];
        private int count = 0;

        void clear() {
            Arrays.fill(heads, NONE);
            count = 0;
        }

        /** Notes the string as one of the object's members: false if the object has it already. */
        boolean add(Text text, int object, int string) {
            int bucket = (text.hash(string) + object) & (BUCKETS - 1);
            int k = heads[bucket];
            for (int i = 0; i < count && k >= 0 && k < MOST; i++) {
                if (owners[k] == object && text.saysSame(places[k], string)) {
                    return false;
                }
                k = nexts[k];
            }
            if (count < MOST) {
                places[count] = string;
                owners[count] = object;
                nexts[count] = heads[bucket];
                heads[bucket] = count;
                count++;
            }
            return true;
        }
    }

    /**
     * A schema: its plain form, and a slot for each value that was looked at as a schema, the
     * whole one's first. The slot of a name that stood before means the slot of its definition.
     * Names are known by the place in the plain form where they begin; a quote ends them there.
     */
    private static final class Schema {
        static final int MOST = 128;
        static final int DEEPEST = 16;
        private static final int NAME_MOST = 32;

        // The plain form leaves out what the text has and adds nothing: it is never longer.
        private final byte[] plain = new byte[TAPE_MOST];
        private final int[] kinds = new int[MOST];
        private final int[] meant = new int[MOST];
        private final int[] firsts = new int[MOST];
        private final int[] nexts = new int[MOST];
        private final int[] names = new int[MOST];
        private final int[] fieldNames = new int[MOST];
        private final int[] amounts = new int[MOST];
        private final boolean[] fieldDefaults = new boolean[MOST];
        private final boolean[] enumDefaults = new boolean[MOST];
        private int letterCount = 0;
        private int slotCount = 0;

        void clear() {
            letterCount = 0;
            slotCount = 0;
        }

        int letterCount() {
            return letterCount;
        }

        int letterAt(int i) {
            return i >= 0 && i < letterCount ? plain[i] & 255 : NONE;
        }

        /** A new slot, or NONE when there are 128. */
        int open() {
            if (slotCount >= MOST) {
                return NONE;
            }
            int slot = slotCount;
            slotCount++;
            kinds[slot] = NONE;
            meant[slot] = slot;
            firsts[slot] = NONE;
            nexts[slot] = NONE;
            names[slot] = NONE;
            fieldNames[slot] = NONE;
            amounts[slot] = 0;
            fieldDefaults[slot] = false;
            enumDefaults[slot] = false;
            return slot;
        }

        private static boolean isSlot(int slot) {
            return slot >= 0 && slot < MOST;
        }

        /** The slot that tells what the schema at a slot is. */
        int meant(int slot) {
            return entry(meant, slot);
        }

        int kind(int slot) {
            return entry(kinds, entry(meant, slot));
        }

        /** The slot of an array's or map's items, a union's first branch, a record's first field's type. */
        int first(int slot) {
            return entry(firsts, entry(meant, slot));
        }

        /** The slot of the branch, or of the field's type, behind one. */
        int next(int slot) {
            return entry(nexts, slot);
        }

        /** How many branches, fields or symbols there are, or the size of a fixed. */
        int amount(int slot) {
            return entry(amounts, entry(meant, slot));
        }

        int name(int slot) {
            return entry(names, entry(meant, slot));
        }

        int fieldName(int slot) {
            return entry(fieldNames, slot);
        }

        boolean hasFieldDefault(int slot) {
            return isSlot(slot) && fieldDefaults[slot];
        }

        boolean hasEnumDefault(int slot) {
            int m = meant(slot);
            return isSlot(m) && enumDefaults[m];
        }

        void setKind(int slot, int kind) {
            if (isSlot(slot)) {
                kinds[slot] = kind;
            }
        }

        void setMeant(int slot, int definition) {
            if (isSlot(slot)) {
                meant[slot] = definition;
            }
        }

        void setName(int slot, int name) {
            if (isSlot(slot)) {
                names[slot] = name;
            }
        }

        void setAmount(int slot, int amount) {
            if (isSlot(slot)) {
                amounts[slot] = amount;
            }
        }

        void setField(int slot, int name, boolean hasDefault) {
            if (isSlot(slot)) {
                fieldNames[slot] = name;
                fieldDefaults[slot] = hasDefault;
            }
        }

        void setEnumDefault(int slot) {
            if (isSlot(slot)) {
                enumDefaults[slot] = true;
            }
        }

        /** Puts a slot behind the last one (NONE: there is none) of those that lie in another. */
        void join(int outer, int last, int slot) {
            if (!isSlot(outer)) {
                return;
            }
            if (isSlot(last)) {
                nexts[last] = slot;
            } else {
                firsts[outer] = slot;
            }
            amounts[outer]++;
        }

        void writeByte(int b) {
            if (letterCount < plain.length) {
                plain[letterCount] = (byte) b;
                letterCount++;
            }
        }

        void write(String words) {
            for (int i = 0; i < words.length(); i++) {
                writeByte(words.charAt(i));
            }
        }

        /** Writes a string of the text in quotes: the place in the plain form where it begins. */
        int writeSaid(Text text, int string) {
            writeByte('"');
            int start = letterCount;
            for (int i = 0; i < text.amount(string); i++) {
                writeByte(text.saidAt(string + i));
            }
            writeByte('"');
            return start;
        }

        void writeNumber(int number) {
            if (number >= 10) {
                writeByte('0' + number / 10);
            }
            writeByte('0' + number % 10);
        }

        /** Whether the name at that place of the plain form is what the string says. */
        boolean isSaid(int name, Text text, int string) {
            int n = text.amount(string);
            if (n < 1 || n > NAME_MOST) {
                return false;
            }
            for (int i = 0; i < n; i++) {
                int b = letterAt(name + i);
                // A quote in the string must not be taken for the one that ends the name.
                if (b == '"' || b != text.saidAt(string + i)) {
                    return false;
                }
            }
            return letterAt(name + n) == '"';
        }

        /** The slot of the fixed, enum or record that is defined by that name, or NONE. */
        int definition(Text text, int string) {
            for (int slot = 0; slot < slotCount; slot++) {
                if (names[slot] != NONE && isSaid(names[slot], text, string)) {
                    return slot;
                }
            }
            return NONE;
        }

        boolean hasField(int slot, Text text, int string) {
            int field = first(slot);
            for (int i = 0; i < amount(slot); i++) {
                if (isSaid(fieldName(field), text, string)) {
                    return true;
                }
                field = next(field);
            }
            return false;
        }

        /** The symbol behind one: between the two stand a quote, a comma and a quote. */
        int nextSymbol(int symbol) {
            int p = symbol;
            while (p < letterCount && letterAt(p) != '"') {
                p++;
            }
            return p + 3;
        }

        boolean hasSymbol(int slot, Text text, int string) {
            int symbol = first(slot);
            for (int i = 0; i < amount(slot); i++) {
                if (isSaid(symbol, text, string)) {
                    return true;
                }
                symbol = nextSymbol(symbol);
            }
            return false;
        }

        /** Puts a symbol behind those of an enum; the place of the first one is kept as its first. */
        void addSymbol(int slot, Text text, int string) {
            if (!isSlot(slot)) {
                return;
            }
            if (amounts[slot] > 0) {
                writeByte(',');
            }
            int symbol = writeSaid(text, string);
            if (amounts[slot] == 0) {
                firsts[slot] = symbol;
            }
            amounts[slot]++;
        }

        /** Whether two of this schema could not both be branches of a union. */
        boolean isAlike(int slot, int other) {
            if (kind(slot) != kind(other)) {
                return false;
            }
            return !Kind.isNamed(kind(slot)) || meant(slot) == meant(other);
        }

        static boolean isSameName(Schema a, int name, Schema b, int other) {
            if (name < 0 || other < 0) {
                return false;
            }
            for (int i = 0; i <= NAME_MOST; i++) {
                int p = name + i;
                int q = other + i;
                if (p >= a.letterCount || q >= b.letterCount || a.plain[p] != b.plain[q]) {
                    return false;
                }
                if (a.plain[p] == '"') {
                    return true;
                }
            }
            return false;
        }
    }

    /** A list of two numbers each, no more than a schema has slots; its rows serve all calls. */
    private static final class Couples {
        private final int[] firsts = new int[Schema.MOST];
        private final int[] seconds = new int[Schema.MOST];
        private int count = 0;

        void clear() {
            count = 0;
        }

        int count() {
            return count;
        }

        int first(int i) {
            return entry(firsts, i);
        }

        int second(int i) {
            return entry(seconds, i);
        }

        void add(int a, int b) {
            if (count < Schema.MOST) {
                enter(firsts, count, a);
                enter(seconds, count, b);
                count++;
            }
        }

        boolean has(int a, int b) {
            for (int i = 0; i < count; i++) {
                if (entry(firsts, i) == a && entry(seconds, i) == b) {
                    return true;
                }
            }
            return false;
        }
    }

    /** Looks at the value of a text as a schema, and fills the rows of one. */
    private static final class Looker {
        private static final int BRANCHES_MOST = 16;
        private static final int SYMBOLS_MOST = 32;
        private static final int FIELDS_MOST = 32;
        private static final int SIZE_MOST = 64;

        private final Text text;
        private final Schema schema;
        // The slot of a field's type, and the value of its default.
        private final Couples due;
        private int fault = 0;
        private int faultPlace = NONE;

        Looker(Text text, Schema schema, Couples due) {
            this.text = text;
            this.schema = schema;
            this.due = due;
        }

        int faultPlace() {
            return faultPlace;
        }

        /** 0, or the fault. */
        int read() {
            schema.clear();
            due.clear();
            int v = text.read();
            if (v == NONE) {
                refuse(Fault.TEXT, text.wrongPlace());
            } else if (lookAt(v, 0, false) != NONE) {
                checkDefaults();
            }
            return fault;
        }

        private boolean refuse(int number, int p) {
            fault = number;
            faultPlace = p;
            return false;
        }

        private void checkDefaults() {
            Defaults defaults = new Defaults(text, schema);
            for (int i = 0; i < due.count(); i++) {
                int p = defaults.misfit(due.first(i), due.second(i), 0);
                if (p != NONE) {
                    refuse(Fault.BAD_DEFAULT, p);
                    return;
                }
            }
        }

        /** Looks at the value at v, which lies in that many schemas: its slot, or NONE with a fault. */
        private int lookAt(int v, int depth, boolean isBranch) {
            int slot = schema.open();
            boolean isGood;
            if (slot == NONE) {
                isGood = refuse(Fault.TOO_MANY, v);
            } else if (depth >= Schema.DEEPEST) {
                isGood = refuse(Fault.TOO_DEEP, v);
            } else if (text.isString(v)) {
                isGood = lookAtWord(slot, v);
            } else if (text.isList(v)) {
                isGood = lookAtUnion(slot, v, depth, isBranch);
            } else if (text.isObject(v)) {
                isGood = lookAtObject(slot, v, depth);
            } else {
                isGood = refuse(Fault.NO_SCHEMA, v);
            }
            return isGood ? slot : NONE;
        }

        private boolean lookAtWord(int slot, int string) {
            int kind = Kind.said(text, string);
            if (kind != NONE && kind <= Kind.STRING) {
                schema.setKind(slot, kind);
            } else {
                int definition = schema.definition(text, string);
                if (definition == NONE) {
                    return refuse(Fault.UNKNOWN_NAME, string);
                }
                schema.setMeant(slot, definition);
            }
            schema.writeSaid(text, string);
            return true;
        }

        private boolean lookAtUnion(int slot, int v, int depth, boolean isBranch) {
            if (isBranch) {
                return refuse(Fault.UNION_IN_UNION, v);
            }
            int count = text.amount(v);
            if (count < 1 || count > BRANCHES_MOST) {
                return refuse(Fault.BRANCH_COUNT, v);
            }
            schema.setKind(slot, Kind.UNION);
            int value = text.inner(v);
            int last = NONE;
            for (int i = 0; i < count; i++) {
                schema.writeByte(i == 0 ? '[' : ',');
                int branch = lookAt(value, depth + 1, true);
                if (branch == NONE) {
                    return false;
                }
                if (hasAlike(slot, branch)) {
                    return refuse(Fault.BRANCH_TWICE, value);
                }
                schema.join(slot, last, branch);
                last = branch;
                value = text.next(value);
            }
            schema.writeByte(']');
            return true;
        }

        private boolean hasAlike(int union, int branch) {
            int before = schema.first(union);
            for (int i = 0; i < schema.amount(union); i++) {
                if (schema.isAlike(before, branch)) {
                    return true;
                }
                before = schema.next(before);
            }
            return false;
        }

        private boolean lookAtObject(int slot, int v, int depth) {
            int type = text.member(v, "type");
            if (!text.isString(type)) {
                return refuse(Fault.NO_TYPE, v);
            }
            int kind = Kind.said(text, type);
            if (kind == Kind.ARRAY) {
                return lookAtItems(slot, v, depth, kind, "items");
            }
            if (kind == Kind.MAP) {
                return lookAtItems(slot, v, depth, kind, "values");
            }
            if (!Kind.isNamed(kind)) {
                return lookAtWord(slot, type);
            }
            if (!define(slot, v, kind)) {
                return false;
            }
            if (kind == Kind.FIXED) {
                return lookAtFixed(slot, v);
            }
            return kind == Kind.ENUM ? lookAtEnum(slot, v) : lookAtRecord(slot, v, depth);
        }

        private boolean lookAtItems(int slot, int v, int depth, int kind, String member) {
            int items = text.member(v, member);
            if (items == NONE) {
                return refuse(Fault.MEMBER_LACKS, v);
            }
            schema.setKind(slot, kind);
            schema.write(kind == Kind.ARRAY ? "{\"type\":\"array\",\"items\":" : "{\"type\":\"map\",\"values\":");
            int inner = lookAt(items, depth + 1, false);
            if (inner == NONE) {
                return false;
            }
            schema.join(slot, NONE, inner);
            schema.writeByte('}');
            return true;
        }

        private boolean define(int slot, int v, int kind) {
            int name = text.member(v, "name");
            if (!text.isString(name)) {
                return refuse(Fault.MEMBER_LACKS, v);
            }
            if (!text.saysName(name) || Kind.said(text, name) != NONE || schema.definition(text, name) != NONE) {
                return refuse(Fault.BAD_NAME, name);
            }
            schema.setKind(slot, kind);
            schema.write("{\"name\":");
            schema.setName(slot, schema.writeSaid(text, name));
            schema.write(",\"type\":\"");
            schema.write(Kind.word(kind));
            schema.writeByte('"');
            return true;
        }

        private boolean lookAtFixed(int slot, int v) {
            int size = text.member(v, "size");
            if (size == NONE) {
                return refuse(Fault.MEMBER_LACKS, v);
            }
            long number = text.isNumber(size) ? text.numberAt(size) : NONE;
            if (number < 0 || number > SIZE_MOST) {
                return refuse(Fault.BAD_SIZE, size);
            }
            schema.setAmount(slot, (int) number);
            schema.write(",\"size\":");
            schema.writeNumber((int) number);
            schema.writeByte('}');
            return true;
        }

        private boolean lookAtEnum(int slot, int v) {
            int list = text.member(v, "symbols");
            if (list == NONE) {
                return refuse(Fault.MEMBER_LACKS, v);
            }
            int count = text.amount(list);
            if (!text.isList(list) || count < 1 || count > SYMBOLS_MOST) {
                return refuse(Fault.BAD_LIST, list);
            }
            schema.write(",\"symbols\":[");
            int symbol = text.inner(list);
            for (int i = 0; i < count; i++) {
                if (!text.saysName(symbol) || schema.hasSymbol(slot, text, symbol)) {
                    return refuse(Fault.BAD_LIST, symbol);
                }
                schema.addSymbol(slot, text, symbol);
                symbol = text.next(symbol);
            }
            schema.write("]}");
            return lookAtEnumDefault(slot, text.member(v, "default"));
        }

        private boolean lookAtEnumDefault(int slot, int value) {
            if (value == NONE) {
                return true;
            }
            if (!text.isString(value) || !schema.hasSymbol(slot, text, value)) {
                return refuse(Fault.BAD_DEFAULT, value);
            }
            schema.setEnumDefault(slot);
            return true;
        }

        private boolean lookAtRecord(int slot, int v, int depth) {
            int list = text.member(v, "fields");
            if (list == NONE) {
                return refuse(Fault.MEMBER_LACKS, v);
            }
            int count = text.amount(list);
            if (!text.isList(list) || count > FIELDS_MOST) {
                return refuse(Fault.BAD_LIST, list);
            }
            schema.write(",\"fields\":[");
            int field = text.inner(list);
            int last = NONE;
            for (int i = 0; i < count; i++) {
                if (i > 0) {
                    schema.writeByte(',');
                }
                int type = lookAtField(slot, field, depth);
                if (type == NONE) {
                    return false;
                }
                schema.join(slot, last, type);
                last = type;
                field = text.next(field);
            }
            schema.write("]}");
            return true;
        }

        /** Looks at a field of a record: the slot of its type, or NONE with a fault. */
        private int lookAtField(int record, int field, int depth) {
            if (!isGoodField(record, field)) {
                return NONE;
            }
            schema.write("{\"name\":");
            int name = schema.writeSaid(text, text.member(field, "name"));
            schema.write(",\"type\":");
            int slot = lookAt(text.member(field, "type"), depth + 1, false);
            if (slot == NONE) {
                return NONE;
            }
            schema.writeByte('}');
            int value = text.member(field, "default");
            schema.setField(slot, name, value != NONE);
            // Only now, when its type is done: so it comes behind the fields that lie in its type.
            if (value != NONE) {
                due.add(slot, value);
            }
            return slot;
        }

        private boolean isGoodField(int record, int field) {
            if (!text.isObject(field)) {
                return refuse(Fault.BAD_LIST, field);
            }
            int name = text.member(field, "name");
            if (!text.isString(name)) {
                return refuse(Fault.MEMBER_LACKS, field);
            }
            if (!text.saysName(name) || schema.hasField(record, text, name)) {
                return refuse(Fault.BAD_NAME, name);
            }
            if (text.member(field, "type") == NONE) {
                return refuse(Fault.MEMBER_LACKS, field);
            }
            return true;
        }
    }

    /** Whether values of a text fit schemas of the same text, as the defaults of fields must. */
    private static final class Defaults {
        private final Text text;
        private final Schema schema;

        Defaults(Text text, Schema schema) {
            this.text = text;
            this.schema = schema;
        }

        /** The first value in v, or v itself, that does not fit the schema at the slot; NONE if all fit. */
        private int misfit(int slot, int v, int depth) {
            int s = schema.kind(slot) == Kind.UNION ? schema.first(slot) : slot;
            if (depth > Text.DEEPEST || !isOfKind(s, v)) {
                return v;
            }
            switch (schema.kind(s)) {
                case Kind.ARRAY: return misfitInList(schema.first(s), v, depth);
                case Kind.MAP: return misfitInMap(schema.first(s), v, depth);
                case Kind.RECORD: return misfitInRecord(s, v, depth);
                default: return NONE;
            }
        }

        private boolean isOfKind(int slot, int v) {
            switch (schema.kind(slot)) {
                case Kind.NULL: return text.byteAt(v) == 'n';
                case Kind.BOOLEAN: return text.byteAt(v) == 't' || text.byteAt(v) == 'f';
                case Kind.INT: return text.isNumber(v) && text.numberAt(v) == (int) text.numberAt(v);
                case Kind.LONG: return text.isNumber(v);
                case Kind.BYTES:
                case Kind.STRING: return text.isString(v);
                case Kind.FIXED: return text.isString(v) && text.amount(v) == schema.amount(slot);
                case Kind.ENUM: return text.isString(v) && schema.hasSymbol(slot, text, v);
                case Kind.ARRAY: return text.isList(v);
                case Kind.MAP:
                case Kind.RECORD: return text.isObject(v);
                default: return false;
            }
        }

        private int misfitInList(int items, int list, int depth) {
            int value = text.inner(list);
            for (int i = 0; i < text.amount(list); i++) {
                int p = misfit(items, value, depth + 1);
                if (p != NONE) {
                    return p;
                }
                value = text.next(value);
            }
            return NONE;
        }

        private int misfitInMap(int items, int object, int depth) {
            int key = text.inner(object);
            for (int i = 0; i < text.amount(object); i++) {
                int p = misfit(items, text.inner(key), depth + 1);
                if (p != NONE) {
                    return p;
                }
                key = text.next(key);
            }
            return NONE;
        }

        private int misfitInRecord(int record, int object, int depth) {
            int field = schema.first(record);
            for (int i = 0; i < schema.amount(record); i++) {
                int value = memberFor(schema.fieldName(field), object);
                int p = value == NONE ? object : misfit(field, value, depth + 1);
                if (p != NONE) {
                    return p;
                }
                field = schema.next(field);
            }
            return NONE;
        }

        private int memberFor(int fieldName, int object) {
            int key = text.inner(object);
            for (int i = 0; i < text.amount(object); i++) {
                if (schema.isSaid(fieldName, text, key)) {
                    return text.inner(key);
                }
                key = text.next(key);
            }
            return NONE;
        }
    }

    /** Two schemas: whether the first, the writer, matches or fits the second, the reader. */
    private static final class Pair {
        // A way down goes through the writer's and the reader's levels between two records.
        private static final int DEEPEST = 2 * Schema.DEEPEST + 2;

        private final Schema writer;
        private final Schema reader;
        // Each of the writer's records is there once at most, as it is asked for with that of its name alone.
        private final Couples asked;

        Pair(Schema writer, Schema reader, Couples asked) {
            this.writer = writer;
            this.reader = reader;
            this.asked = asked;
        }

        boolean isMatch(int w, int r) {
            int a = w;
            int b = r;
            for (int depth = 0; depth <= Schema.DEEPEST; depth++) {
                int kind = writer.kind(a);
                if (kind == Kind.UNION || reader.kind(b) == Kind.UNION) {
                    return true;
                }
                if (kind != reader.kind(b) || kind != Kind.ARRAY && kind != Kind.MAP) {
                    return isSame(a, b);
                }
                a = writer.first(a);
                b = reader.first(b);
            }
            return false;
        }

        /** Whether one matches another by itself, neither being a union, an array or a map. */
        private boolean isSame(int w, int r) {
            int a = writer.kind(w);
            int b = reader.kind(r);
            if (a != b) {
                return a == Kind.INT && b == Kind.LONG
                    || a == Kind.BYTES && b == Kind.STRING
                    || a == Kind.STRING && b == Kind.BYTES;
            }
            if (!Kind.isNamed(a)) {
                return true;
            }
            if (a == Kind.FIXED && writer.amount(w) != reader.amount(r)) {
                return false;
            }
            return Schema.isSameName(writer, writer.name(w), reader, reader.name(r));
        }

        /**
         * All that is asked for must fit, so two records that are met on the way count as
         * fitting there, and are looked into later, once: no way down gets long.
         */
        boolean isWholeFit() {
            asked.clear();
            if (!isFit(0, 0, 0)) {
                return false;
            }
            // More of them may be asked for on the way.
            for (int i = 0; i < asked.count() && i < Schema.MOST; i++) {
                if (!isFieldsFit(asked.first(i), asked.second(i))) {
                    return false;
                }
            }
            return true;
        }

        private boolean isFit(int w, int r, int depth) {
            if (depth > DEEPEST) {
                return false;
            }
            int kind = writer.kind(w);
            if (kind == Kind.UNION) {
                return isEveryBranchFit(w, r, depth);
            }
            if (reader.kind(r) == Kind.UNION) {
                int branch = firstMatch(w, r);
                return branch != NONE && isFit(w, branch, depth + 1);
            }
            if (kind == reader.kind(r) && (kind == Kind.ARRAY || kind == Kind.MAP)) {
                return isFit(writer.first(w), reader.first(r), depth + 1);
            }
            if (!isSame(w, r)) {
                return false;
            }
            if (kind == Kind.RECORD) {
                ask(writer.meant(w), reader.meant(r));
            }
            return kind != Kind.ENUM || reader.hasEnumDefault(r) || hasAllSymbols(w, r);
        }

        private boolean isEveryBranchFit(int w, int r, int depth) {
            int branch = writer.first(w);
            for (int i = 0; i < writer.amount(w); i++) {
                if (!isFit(branch, r, depth + 1)) {
                    return false;
                }
                branch = writer.next(branch);
            }
            return true;
        }

        private int firstMatch(int w, int union) {
            int branch = reader.first(union);
            for (int i = 0; i < reader.amount(union); i++) {
                if (isMatch(w, branch)) {
                    return branch;
                }
                branch = reader.next(branch);
            }
            return NONE;
        }

        private boolean hasAllSymbols(int w, int r) {
            int symbol = writer.first(w);
            for (int i = 0; i < writer.amount(w); i++) {
                if (!hasSymbol(r, symbol)) {
                    return false;
                }
                symbol = writer.nextSymbol(symbol);
            }
            return true;
        }

        private boolean hasSymbol(int r, int symbol) {
            int own = reader.first(r);
            for (int i = 0; i < reader.amount(r); i++) {
                if (Schema.isSameName(writer, symbol, reader, own)) {
                    return true;
                }
                own = reader.nextSymbol(own);
            }
            return false;
        }

        private void ask(int w, int r) {
            if (!asked.has(w, r)) {
                asked.add(w, r);
            }
        }

        private boolean isFieldsFit(int w, int r) {
            int field = reader.first(r);
            for (int i = 0; i < reader.amount(r); i++) {
                // A default serves whether the writer lacks the field or has one that does not fit.
                if (!reader.hasFieldDefault(field)) {
                    int told = writerField(w, reader.fieldName(field));
                    if (told == NONE || !isFit(told, field, 0)) {
                        return false;
                    }
                }
                field = reader.next(field);
            }
            return true;
        }

        private int writerField(int w, int name) {
            int field = writer.first(w);
            for (int i = 0; i < writer.amount(w); i++) {
                if (Schema.isSameName(writer, writer.fieldName(field), reader, name)) {
                    return field;
                }
                field = writer.next(field);
            }
            return NONE;
        }
    }
}
