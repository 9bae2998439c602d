import java.util.ArrayList;
import java.util.HashSet;
import java.util.LinkedHashMap;
import java.util.List;
import java.util.Map;
import java.util.Set;

/** The document told a second time, with trees, maps and exceptions, to hold SchemaReader against. */
final class Oracle {
    private static final List<String> SIX = List.of("null", "boolean", "int", "long", "bytes", "string");
    private static final List<String> OTHERS = List.of("array", "map", "fixed", "enum", "record");

    /** A fault ends all. */
    static final class Stop extends RuntimeException {
        private static final long serialVersionUID = 1;
        final int fault;
        final int place;

        Stop(int fault, int place) {
            super("fault " + fault + " at " + place, null, false, false);
            this.fault = fault;
            this.place = place;
        }
    }

    /** A value: what is a String, Long, Boolean, List of Value, Map of String to Value, or null. */
    static final class Value {
        final int at;
        final Object what;

        Value(int at, Object what) {
            this.at = at;
            this.what = what;
        }

        @SuppressWarnings("unchecked")
        Map<String, Value> members() {
            return (Map<String, Value>) what;
        }

        @SuppressWarnings("unchecked")
        List<Value> values() {
            return (List<Value>) what;
        }

        Value get(String name) {
            return members().get(name);
        }

        boolean isText() {
            return what instanceof String;
        }

        boolean isList() {
            return what instanceof List;
        }

        boolean isObject() {
            return what instanceof Map;
        }
    }

    static final class Field {
        String name;
        Type type;
        Value value;
    }

    static final class Type {
        String kind;
        String name;
        Type items;
        List<Type> branches = new ArrayList<>();
        List<String> symbols = new ArrayList<>();
        List<Field> fields = new ArrayList<>();
        boolean hasDefault;
        long size;
    }

    private final byte[] tape;
    private int at = 0;
    private int looked = 0;
    private final Map<String, Type> defined = new LinkedHashMap<>();
    private final List<Field> due = new ArrayList<>();

    private Oracle(byte[] tape) {
        this.tape = tape;
    }

    /** The schema of the tape; throws Stop. */
    static Type read(byte[] tape) {
        Oracle o = new Oracle(tape);
        o.blanks();
        Value v = o.value(1);
        o.blanks();
        if (o.at < tape.length) {
            throw new Stop(1, o.at);
        }
        Type type = o.look(v, 0, false);
        for (Field f : o.due) {
            fit(f.type, f.value);
        }
        return type;
    }

    // ---- texts

    private int peek() {
        return at < tape.length ? tape[at] & 255 : -1;
    }

    private void blanks() {
        while (at < tape.length && " \t\n\r".indexOf(peek()) >= 0) {
            at++;
        }
    }

    private void expect(int b) {
        if (peek() != b) {
            throw new Stop(1, at);
        }
        at++;
    }

    private Value value(int depth) {
        int start = at;
        int b = peek();
        if (b == '"') {
            return new Value(start, string());
        }
        if (b == '{' || b == '[') {
            if (depth == 25) {
                throw new Stop(1, at);
            }
            return b == '{' ? object(depth) : list(depth);
        }
        if (b == '-' || b >= '0' && b <= '9') {
            return new Value(start, number());
        }
        for (String word : new String[] {"true", "false", "null"}) {
            if (b == word.charAt(0)) {
                word.chars().forEach(this::expect);
                return new Value(start, word.equals("null") ? null : Boolean.valueOf(word));
            }
        }
        throw new Stop(1, at);
    }

    private Value list(int depth) {
        int start = at++;
        List<Value> values = new ArrayList<>();
        blanks();
        if (peek() == ']') {
            at++;
            return new Value(start, values);
        }
        while (true) {
            blanks();
            values.add(value(depth + 1));
            blanks();
            if (peek() == ']') {
                at++;
                return new Value(start, values);
            }
            expect(',');
        }
    }

    private Value object(int depth) {
        int start = at++;
        Map<String, Value> members = new LinkedHashMap<>();
        blanks();
        if (peek() == '}') {
            at++;
            return new Value(start, members);
        }
        while (true) {
            blanks();
            int key = at;
            if (peek() != '"') {
                throw new Stop(1, at);
            }
            String name = string();
            if (members.containsKey(name)) {
                throw new Stop(1, key);
            }
            blanks();
            expect(':');
            blanks();
            members.put(name, value(depth + 1));
            blanks();
            if (peek() == '}') {
                at++;
                return new Value(start, members);
            }
            expect(',');
        }
    }

    private String string() {
        StringBuilder letters = new StringBuilder();
        at++;
        while (peek() != '"') {
            if (peek() < 32 || peek() > 126) {
                throw new Stop(1, at);
            }
            int b = peek();
            int start = at++;
            if (b != '\\') {
                letters.append((char) b);
            } else if (peek() == 'u') {
                at++;
                int number = 0;
                for (int i = 0; i < 4; i++) {
                    int digit = peek() > 127 ? -1 : Character.digit(peek(), 16);
                    if (digit < 0) {
                        throw new Stop(1, at);
                    }
                    number = number * 16 + digit;
                    at++;
                }
                if (number > 255) {
                    throw new Stop(1, start);
                }
                letters.append((char) number);
            } else {
                int which = peek() < 0 ? -1 : "\"\\/bfnrt".indexOf(peek());
                if (which < 0) {
                    throw new Stop(1, at);
                }
                letters.append("\"\\/\b\f\n\r\t".charAt(which));
                at++;
            }
        }
        at++;
        return letters.toString();
    }

    private Long number() {
        int start = at;
        if (peek() == '-') {
            at++;
        }
        if (peek() < '0' || peek() > '9') {
            throw new Stop(1, at);
        }
        if (peek() == '0') {
            at++;
        } else {
            while (peek() >= '0' && peek() <= '9') {
                at++;
            }
        }
        java.math.BigInteger n = new java.math.BigInteger(new String(tape, start, at - start,
            java.nio.charset.StandardCharsets.ISO_8859_1));
        if (n.bitLength() > 63) {
            throw new Stop(1, start);
        }
        return n.longValue();
    }

    // ---- schemas

    private static boolean isName(Object o) {
        return o instanceof String s && s.matches("[A-Za-z_][A-Za-z0-9_]{0,31}") && !s.endsWith("\n");
    }

    private static Type of(String kind) {
        Type t = new Type();
        t.kind = kind;
        return t;
    }

    private Type look(Value v, int within, boolean isBranch) {
        if (looked == 128) {
            throw new Stop(13, v.at);
        }
        looked++;
        if (within == 16) {
            throw new Stop(14, v.at);
        }
        if (v.isText()) {
            return word(v);
        }
        if (v.isList()) {
            return union(v, within, isBranch);
        }
        if (v.isObject()) {
            return object(v, within);
        }
        throw new Stop(2, v.at);
    }

    private Type word(Value v) {
        String s = (String) v.what;
        if (SIX.contains(s)) {
            return of(s);
        }
        if (defined.containsKey(s)) {
            return defined.get(s);
        }
        throw new Stop(3, v.at);
    }

    private Type union(Value v, int within, boolean isBranch) {
        if (isBranch) {
            throw new Stop(4, v.at);
        }
        int n = v.values().size();
        if (n < 1 || n > 16) {
            throw new Stop(5, v.at);
        }
        Type t = of("union");
        Set<String> before = new HashSet<>();
        for (Value b : v.values()) {
            Type branch = look(b, within + 1, true);
            if (!before.add(branch.name != null ? "name " + branch.name : branch.kind)) {
                throw new Stop(6, b.at);
            }
            t.branches.add(branch);
        }
        return t;
    }

    private static Value need(Value v, String member) {
        Value m = v.get(member);
        if (m == null) {
            throw new Stop(8, v.at);
        }
        return m;
    }

    private Type object(Value v, int within) {
        Value type = v.get("type");
        if (type == null || !type.isText()) {
            throw new Stop(7, v.at);
        }
        String kind = (String) type.what;
        if (!OTHERS.contains(kind)) {
            return word(type);
        }
        Type t = of(kind);
        if (kind.equals("array") || kind.equals("map")) {
            t.items = look(need(v, kind.equals("array") ? "items" : "values"), within + 1, false);
            return t;
        }
        Value name = need(v, "name");
        if (!name.isText()) {
            throw new Stop(8, v.at);
        }
        if (!isName(name.what) || SIX.contains(name.what) || OTHERS.contains(name.what) || defined.containsKey(name.what)) {
            throw new Stop(9, name.at);
        }
        t.name = (String) name.what;
        defined.put(t.name, t);
        if (kind.equals("fixed")) {
            Value size = need(v, "size");
            if (!(size.what instanceof Long n) || n < 0 || n > 64) {
                throw new Stop(10, size.at);
            }
            t.size = (Long) size.what;
        } else if (kind.equals("enum")) {
            symbols(t, v);
        } else {
            fields(t, v, within);
        }
        return t;
    }

    private static void symbols(Type t, Value v) {
        Value list = need(v, "symbols");
        if (!list.isList() || list.values().isEmpty() || list.values().size() > 32) {
            throw new Stop(11, list.at);
        }
        for (Value s : list.values()) {
            if (!isName(s.what) || t.symbols.contains(s.what)) {
                throw new Stop(11, s.at);
            }
            t.symbols.add((String) s.what);
        }
        Value value = v.get("default");
        t.hasDefault = value != null;
        if (value != null && !t.symbols.contains(value.what)) {
            throw new Stop(12, value.at);
        }
    }

    private void fields(Type t, Value v, int within) {
        Value list = need(v, "fields");
        if (!list.isList() || list.values().size() > 32) {
            throw new Stop(11, list.at);
        }
        Set<String> before = new HashSet<>();
        for (Value f : list.values()) {
            if (!f.isObject()) {
                throw new Stop(11, f.at);
            }
            Value name = need(f, "name");
            if (!name.isText()) {
                throw new Stop(8, f.at);
            }
            if (!isName(name.what) || !before.add((String) name.what)) {
                throw new Stop(9, name.at);
            }
            Field field = new Field();
            field.name = (String) name.what;
            field.type = look(need(f, "type"), within + 1, false);
            field.value = f.get("default");
            if (field.value != null) {
                due.add(field);
            }
            t.fields.add(field);
        }
    }

    private static void fit(Type t, Value v) {
        boolean isFit;
        switch (t.kind) {
            case "null": isFit = v.what == null; break;
            case "boolean": isFit = v.what instanceof Boolean; break;
            case "int": isFit = v.what instanceof Long n && n >= Integer.MIN_VALUE && n <= Integer.MAX_VALUE; break;
            case "long": isFit = v.what instanceof Long; break;
            case "fixed": isFit = v.what instanceof String s && s.length() == t.size; break;
            case "enum": isFit = t.symbols.contains(v.what); break;
            case "array": isFit = v.isList(); break;
            case "map":
            case "record": isFit = v.isObject(); break;
            case "union": fit(t.branches.get(0), v); return;
            default: isFit = v.isText();
        }
        if (!isFit) {
            throw new Stop(12, v.at);
        }
        if (t.kind.equals("array")) {
            v.values().forEach(i -> fit(t.items, i));
        } else if (t.kind.equals("map")) {
            v.members().values().forEach(i -> fit(t.items, i));
        } else if (t.kind.equals("record")) {
            for (Field f : t.fields) {
                if (v.get(f.name) == null) {
                    throw new Stop(12, v.at);
                }
                fit(f.type, v.get(f.name));
            }
        }
    }

    // ---- plain forms

    static String plain(Type t) {
        return plain(t, new HashSet<>());
    }

    private static String quoted(String s) {
        return "\"" + s + "\"";
    }

    private static String plain(Type t, Set<String> before) {
        if (t.name != null && !before.add(t.name)) {
            return quoted(t.name);
        }
        List<String> parts = new ArrayList<>();
        switch (t.kind) {
            case "array": return "{\"type\":\"array\",\"items\":" + plain(t.items, before) + "}";
            case "map": return "{\"type\":\"map\",\"values\":" + plain(t.items, before) + "}";
            case "union":
                t.branches.forEach(b -> parts.add(plain(b, before)));
                return "[" + String.join(",", parts) + "]";
            case "fixed": return "{\"name\":" + quoted(t.name) + ",\"type\":\"fixed\",\"size\":" + t.size + "}";
            case "enum":
                t.symbols.forEach(s -> parts.add(quoted(s)));
                return "{\"name\":" + quoted(t.name) + ",\"type\":\"enum\",\"symbols\":[" + String.join(",", parts) + "]}";
            case "record":
                t.fields.forEach(f -> parts.add("{\"name\":" + quoted(f.name) + ",\"type\":" + plain(f.type, before) + "}"));
                return "{\"name\":" + quoted(t.name) + ",\"type\":\"record\",\"fields\":[" + String.join(",", parts) + "]}";
            default: return quoted(t.kind);
        }
    }

    // ---- one as another

    static boolean matches(Type w, Type r) {
        if (w.kind.equals("union") || r.kind.equals("union")) {
            return true;
        }
        if (!w.kind.equals(r.kind)) {
            String both = w.kind + " " + r.kind;
            return both.equals("int long") || both.equals("bytes string") || both.equals("string bytes");
        }
        if (w.items != null) {
            return matches(w.items, r.items);
        }
        return w.name == null || w.name.equals(r.name) && w.size == r.size;
    }

    /** Two types of which it is asked whether one fits the other; known by who they are. */
    private static final class Asked {
        final Type w;
        final Type r;

        Asked(Type w, Type r) {
            this.w = w;
            this.r = r;
        }
    }

    static boolean fits(Type w, Type r) {
        return fits(w, r, new ArrayList<>());
    }

    private static boolean fits(Type w, Type r, List<Asked> asked) {
        for (Asked a : asked) {
            if (a.w == w && a.r == r) {
                return true;
            }
        }
        asked.add(new Asked(w, r));
        boolean isFit = fitsInside(w, r, asked);
        asked.remove(asked.size() - 1);
        return isFit;
    }

    private static boolean fitsInside(Type w, Type r, List<Asked> asked) {
        if (w.kind.equals("union")) {
            return w.branches.stream().allMatch(b -> fits(b, r, asked));
        }
        if (r.kind.equals("union")) {
            for (Type b : r.branches) {
                if (matches(w, b)) {
                    return fits(w, b, asked);
                }
            }
            return false;
        }
        if (w.items != null && w.kind.equals(r.kind)) {
            return fits(w.items, r.items, asked);
        }
        if (!matches(w, r)) {
            return false;
        }
        if (w.kind.equals("enum")) {
            return r.hasDefault || r.symbols.containsAll(w.symbols);
        }
        for (Field f : r.fields) {
            boolean isTold = false;
            for (Field g : w.fields) {
                isTold |= g.name.equals(f.name) && fits(g.type, f.type, asked);
            }
            if (!isTold && f.value == null) {
                return false;
            }
        }
        return true;
    }
}
