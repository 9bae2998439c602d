import java.nio.charset.StandardCharsets;
import java.util.ArrayList;
import java.util.List;
import java.util.Random;

/** All promises at once: texts of a seeded generator, whole and spoilt, held against Oracle. */
final class OracleTest {
    private static final Kit KIT = new Kit("OracleTest");
    private static final int[] FAULTS = new int[15];
    private static int fitting = 0;
    private static int unfitting = 0;

    public static void main(String[] args) {
        Random random = new Random(20261115);
        for (int run = 0; run < 800; run++) {
            one(random);
        }
        for (int run = 0; run < 8000; run++) {
            pieces(random);
        }
        for (int fault = 0; fault < FAULTS.length; fault++) {
            KIT.due("fault " + fault + " was met often enough", FAULTS[fault] >= 20, true);
        }
        KIT.due("fits were met, and such as are none", Math.min(fitting, unfitting) > 1000, true);
        System.out.println("faults met " + java.util.Arrays.toString(FAULTS) + ", fits " + fitting + " and not " + unfitting);
        KIT.end();
    }

    private static void one(Random random) {
        SchemaReader x = new SchemaReader();
        Oracle.Type[] kept = new Oracle.Type[8];
        int size = 1 + random.nextInt(60);
        String before = "\"int\"";
        // An object has 512 calls; 128 of them ask what the places keep.
        int left = 512 - 128;
        for (int i = 0; i < 30; i++) {
            boolean isVaried = random.nextInt(2) == 0;
            String text = isVaried ? varied(before, random) : new Maker(random, size).schema();
            if (random.nextInt(3) == 0) {
                text = spoilt(text, random);
            }
            left -= Kit.callsFor(text) + 2;
            if (left < 0 || text.length() > 4096) {
                break;
            }
            Oracle.Type type = asked(x, text);
            before = type == null ? before : text;
            if (type != null && random.nextInt(4) > 0) {
                int place = random.nextInt(8);
                kept[place] = type;
                int count = 0;
                for (Oracle.Type k : kept) {
                    count += k == null ? 0 : 1;
                }
                KIT.due("keep", x.keep(place), count);
                KIT.due("size() behind keep", x.size(), 0);
            }
        }
        for (int w = 0; w < 8; w++) {
            for (int r = 0; r < 8; r++) {
                compare(x, kept, w, r);
            }
        }
    }

    private static void compare(SchemaReader x, Oracle.Type[] kept, int w, int r) {
        if (kept[w] == null || kept[r] == null) {
            KIT.dueThrow("fits", () -> x.fits(w, r), IllegalStateException.class);
            KIT.dueThrow("matches", () -> x.matches(w, r), IllegalStateException.class);
            return;
        }
        String what = Oracle.plain(kept[w]) + " and " + Oracle.plain(kept[r]);
        boolean isFit = Oracle.fits(kept[w], kept[r]);
        KIT.due("fits of " + what, x.fits(w, r), isFit);
        KIT.due("matches of " + what, x.matches(w, r), Oracle.matches(kept[w], kept[r]));
        if (w != r && isFit) {
            fitting++;
        } else if (Oracle.matches(kept[w], kept[r])) {
            unfitting += isFit ? 0 : 1;
        }
    }

    /** Reads the text on both sides; null with a fault. */
    private static Oracle.Type asked(SchemaReader x, String text) {
        byte[] bytes = text.getBytes(StandardCharsets.ISO_8859_1);
        try {
            Oracle.Type type = Oracle.read(bytes);
            KIT.dueFault(x, text, 0, -1);
            KIT.due("print() of " + text, x.print(), Kit.printOf(Oracle.plain(type)));
            KIT.duePlain(text, Oracle.plain(type));
            FAULTS[0]++;
            return type;
        } catch (Oracle.Stop stop) {
            KIT.dueFault(x, text, stop.fault, stop.place);
            FAULTS[stop.fault]++;
            return null;
        }
    }

    /** The text with a word in it changed for another, so that schemas are met that are nearly the same. */
    private static String varied(String text, Random random) {
        String[] words = {"null", "boolean", "int", "long", "bytes", "string", "int", "long", "bytes", "string"};
        String text1 = text;
        for (int i = 0; i < 1 + random.nextInt(3); i++) {
            int from = text1.indexOf("\"" + words[random.nextInt(words.length)] + "\"", random.nextInt(text1.length()));
            if (from >= 0) {
                int to = text1.indexOf('"', from + 1);
                text1 = text1.substring(0, from + 1) + words[random.nextInt(words.length)] + text1.substring(to);
            }
        }
        return text1;
    }

    private static String spoilt(String text, Random random) {
        StringBuilder letters = new StringBuilder(text);
        int times = 1 + random.nextInt(2);
        for (int i = 0; i < times && letters.length() > 0; i++) {
            int p = random.nextInt(letters.length());
            switch (random.nextInt(5)) {
                case 0: letters.deleteCharAt(p); break;
                case 1: letters.setCharAt(p, (char) random.nextInt(256)); break;
                case 2: letters.insert(p, "{}[]\":,\\-019ntf ".charAt(random.nextInt(16))); break;
                case 3: letters.setLength(p); break;
                default:
                    int q = p + random.nextInt(letters.length() - p);
                    letters.insert(random.nextInt(letters.length()), letters.substring(p, q));
            }
        }
        return letters.toString();
    }

    /** Texts put together from small pieces, to meet the faults of texts. */
    private static void pieces(Random random) {
        String[] pieces = {"{", "}", "[", "]", ",", ":", "\"", "\"a\"", "\"b\":", "\"\\u0061\":", "{\"a\":", "1", "-", "0", "true",
            "null", "false", " ", "\n", "\\", "\\u00", "\\u01", "[1,", "]", "}", "\"int\"", "9223372036854775808", "-1", "x"};
        StringBuilder text = new StringBuilder();
        int n = 1 + random.nextInt(12);
        for (int i = 0; i < n; i++) {
            text.append(pieces[random.nextInt(pieces.length)]);
        }
        asked(new SchemaReader(), text.toString());
    }

    /** Makes texts of schemas, most of them right. */
    private static final class Maker {
        private static final String[] SIX = {"null", "boolean", "int", "long", "bytes", "string"};
        private final Random random;
        private final List<String> names = new ArrayList<>();
        private int left;

        Maker(Random random, int left) {
            this.random = random;
            this.left = left;
        }

        String schema() {
            if (random.nextInt(40) == 0) {
                return many();
            }
            if (random.nextInt(40) == 0) {
                return deep();
            }
            return blank() + (random.nextInt(4) > 0 ? record(0) : type(0, false)) + blank();
        }

        private String many() {
            List<String> fields = new ArrayList<>();
            int n = 30 + random.nextInt(4);
            for (int i = 0; i < n; i++) {
                fields.add("{\"name\":\"f" + i + "\",\"type\":[\"int\",\"null\",\"long\"" + (one(3) ? ",\"bytes\"" : "") + "]}");
            }
            return "{\"type\":\"record\",\"name\":\"R\",\"fields\":[" + String.join(",", fields) + "]}";
        }

        private String deep() {
            int n = 14 + random.nextInt(3);
            return "{\"type\":\"array\",\"items\":".repeat(n) + type(n, false) + "}".repeat(n);
        }

        private boolean one(int in) {
            return random.nextInt(in) == 0;
        }

        private String blank() {
            return one(12) ? " \t\n\r".substring(random.nextInt(4)) : "";
        }

        private String quoted(String s) {
            if (!one(30) || s.isEmpty()) {
                return blank() + "\"" + s + "\"" + blank();
            }
            int i = random.nextInt(s.length());
            String hex = Integer.toHexString(s.charAt(i));
            return "\"" + s.substring(0, i) + "\\u00" + hex + s.substring(i + 1) + "\"";
        }

        private String type(int depth, boolean isBranch) {
            left--;
            int which = left < 0 || depth > 5 ? random.nextInt(4) : random.nextInt(14);
            if (which < 3) {
                String word = quoted(SIX[random.nextInt(6)]);
                return one(8) ? "{\"type\":" + word + "}" : word;
            }
            switch (which) {
                case 3:
                    return names.isEmpty() ? quoted("int") : quoted(names.get(random.nextInt(names.size())));
                case 4: return object("type", quoted("array"), "items", type(depth + 1, false));
                case 5: return object("type", quoted("map"), "values", type(depth + 1, false));
                case 6: return object("type", quoted("fixed"), "name", name(), "size", "" + (random.nextInt(3) + (one(6) ? 63 : 0)));
                case 7: return symbols();
                case 8:
                case 9: return record(depth);
                case 10:
                    return one(25) ? new String[] {"1", "true", "{}", "{\"type\":3}", "null"}[random.nextInt(5)] : quoted("int");
                default: return isBranch && !one(4) ? quoted("string") : union(depth);
            }
        }

        private String name() {
            String name = one(40) ? new String[] {"", "1", "int", "record", "a-b"}[random.nextInt(5)]
                : "ABCDEF".substring(random.nextInt(6)).substring(0, 1);
            if (names.contains(name) && !one(10)) {
                name = "N" + names.size();
            }
            names.add(name);
            return quoted(name);
        }

        private String union(int depth) {
            List<String> branches = new ArrayList<>();
            int n = one(40) ? 17 : one(40) ? 0 : 1 + random.nextInt(3);
            int first = random.nextInt(6);
            for (int i = 0; i < n; i++) {
                branches.add(one(3) ? type(depth + 1, true) : quoted(SIX[(first + i) % 6]));
            }
            return "[" + blank() + String.join(blank() + "," + blank(), branches) + "]";
        }

        private String symbols() {
            List<String> list = new ArrayList<>();
            int n = one(40) ? 33 : one(40) ? 0 : 1 + random.nextInt(3);
            for (int i = 0; i < n; i++) {
                String symbol = n > 3 ? "s" + i : "abc".substring((i + n) % 3).substring(0, 1);
                list.add(one(100) ? "\"a b\"" : quoted(symbol));
            }
            String all = "[" + String.join(",", list) + "]";
            String value = one(20) ? "\"zz\"" : list.isEmpty() ? "1" : list.get(random.nextInt(list.size()));
            return one(3) ? object("type", quoted("enum"), "name", name(), "symbols", all, "default", value)
                : object("type", quoted("enum"), "name", name(), "symbols", all);
        }

        private String record(int depth) {
            left--;
            String name = name();
            List<String> fields = new ArrayList<>();
            int n = random.nextInt(5);
            for (int i = 0; i < n; i++) {
                String field = one(60) ? "f" : "pqrst".substring(i).substring(0, 1);
                String type = type(depth + 1, false);
                fields.add(one(3) ? object("name", quoted(field), "type", type, "default", value(type))
                    : object("name", quoted(field), "type", type));
            }
            return object("type", quoted("record"), "name", name, "fields", "[" + String.join(",", fields) + "]");
        }

        /** A value that often fits the type that the text tells. */
        private String value(String type) {
            String t = type.trim();
            if (one(12)) {
                return new String[] {"1", "null", "\"x\"", "[]", "{}", "true", "2147483648", "[[1],{\"p\":1}]"}[random.nextInt(8)];
            }
            if (t.startsWith("[")) {
                return value(t.substring(1));
            }
            if (t.startsWith("\"null")) {
                return "null";
            }
            if (t.startsWith("\"boolean")) {
                return one(2) ? "true" : "false";
            }
            if (t.startsWith("\"int") || t.startsWith("\"long")) {
                return one(8) ? "-2147483649" : "" + random.nextInt();
            }
            if (t.startsWith("\"")) {
                return one(3) ? "{\"p\":1,\"q\":null,\"r\":\"\"}" : "\"a\"";
            }
            if (t.contains("\"array\"")) {
                return one(2) ? "[]" : "[" + value(behind(t, "\"items\":")) + "]";
            }
            if (t.contains("\"map\"")) {
                return one(2) ? "{}" : "{\"k\":" + value(behind(t, "\"values\":")) + "}";
            }
            if (t.contains("\"record\"")) {
                return "{\"p\":" + value("\"int\"") + ",\"q\":" + value("\"null\"") + ",\"r\":" + value("\"string\"") + "}";
            }
            return new String[] {"\"\"", "\"a\"", "\"aa\"", "\"b\"", "\"\\u00ff\""}[random.nextInt(5)];
        }

        private static String behind(String text, String part) {
            int p = text.indexOf(part);
            return p < 0 ? "\"int\"" : text.substring(p + part.length());
        }

        /** An object of these members in any order, now and then with another, or with one left out. */
        private String object(String... parts) {
            List<String> members = new ArrayList<>();
            for (int i = 0; i < parts.length; i += 2) {
                if (!one(400)) {
                    members.add(random.nextInt(members.size() + 1), quoted(parts[i]) + ":" + blank() + parts[i + 1]);
                }
            }
            if (one(15)) {
                members.add(random.nextInt(members.size() + 1), "\"doc\":[{\"type\":1},\"\\\"\\\\\\/\\b\\f\\n\\r\\t\"]");
            }
            return "{" + blank() + String.join("," + blank(), members) + "}";
        }
    }
}
