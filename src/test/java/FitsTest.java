/** Promise 10: fits. */
final class FitsTest {
    private static final Kit KIT = new Kit("FitsTest");

    public static void main(String[] args) {
        sixWords();
        withParts();
        unions();
        named();
        enums();
        records();
        recursion();
        longWays();
        exceptions();
        KIT.end();
    }

    private static void due(String w, String r, boolean due) {
        KIT.due(w + " fits " + r, Kit.keeping(w, r).fits(0, 1), due);
    }

    private static String array(String items) {
        return "{\"type\":\"array\",\"items\":" + items + "}";
    }

    private static String map(String values) {
        return "{\"type\":\"map\",\"values\":" + values + "}";
    }

    private static String field(String name, String type) {
        return "{\"name\":\"" + name + "\",\"type\":" + type + "}";
    }

    private static String field(String name, String type, String value) {
        return "{\"name\":\"" + name + "\",\"type\":" + type + ",\"default\":" + value + "}";
    }

    private static String record(String name, String... fields) {
        return "{\"type\":\"record\",\"name\":\"" + name + "\",\"fields\":[" + String.join(",", fields) + "]}";
    }

    private static String symbols(String name, String list, String value) {
        return "{\"type\":\"enum\",\"name\":\"" + name + "\",\"symbols\":[" + list + "]"
            + (value == null ? "" : ",\"default\":" + value) + "}";
    }

    private static void sixWords() {
        String[] words = {"\"null\"", "\"boolean\"", "\"int\"", "\"long\"", "\"bytes\"", "\"string\""};
        for (int i = 0; i < 6; i++) {
            for (int k = 0; k < 6; k++) {
                boolean isFit = i == k || i == 2 && k == 3 || i == 4 && k == 5 || i == 5 && k == 4;
                due(words[i], words[k], isFit);
                due(array(words[i]), array(words[k]), isFit);
                due(map(words[i]), map(words[k]), isFit);
                due("[" + words[i] + "]", words[k], isFit);
                due(words[i], "[" + words[k] + "]", isFit);
                due("[" + words[i] + "]", "[" + words[k] + "]", isFit);
                due(array(words[i]), words[k], false);
            }
        }
    }

    private static void withParts() {
        due(array("\"int\""), map("\"int\""), false);
        due(map("\"int\""), array("\"int\""), false);
        due(array(map("\"int\"")), array(map("\"long\"")), true);
        due(array(map("\"long\"")), array(map("\"int\"")), false);
        due(array("[\"null\",\"int\"]"), array("\"int\""), false);
        due(array("\"int\""), array("[\"null\",\"int\"]"), true);
        String deep = "{\"type\":\"map\",\"values\":".repeat(14);
        due(deep + "[\"int\"]" + "}".repeat(14), deep + "[\"long\"]" + "}".repeat(14), true);
        due(deep + "[\"long\"]" + "}".repeat(14), deep + "[\"int\"]" + "}".repeat(14), false);
    }

    private static void unions() {
        due("[\"null\",\"int\"]", "[\"int\",\"null\"]", true);
        due("[\"null\",\"int\"]", "[\"long\",\"null\",\"string\"]", true);
        due("[\"null\",\"int\",\"boolean\"]", "[\"long\",\"null\",\"string\"]", false);
        due("[\"bytes\",\"string\"]", "\"string\"", true);
        due("\"boolean\"", "[\"null\",\"int\"]", false);
        // A union within matches anything, so it is there, and still does not fit.
        due(array("\"int\""), "[" + array("[\"null\"]") + "]", false);
        due("[" + record("R", field("a", "\"int\"")) + "]", "[\"null\"," + record("R", field("a", "\"long\"")) + "]", true);
        due("\"int\"", "[\"long\",\"int\"]", true);
        due("\"long\"", "[\"int\",\"long\"]", true);
        due(array("\"long\""), "[" + map("\"long\"") + "," + array("\"int\"") + "]", false);
        due(array("\"int\""), "[" + map("\"long\"") + "," + array("\"long\"") + "]", true);
        // The first that matches is an array of a union, within which the items do not fit.
        due(array("\"int\""), array("[\"string\",\"long\"]"), true);
        due(array("\"boolean\""), array("[\"string\",\"long\"]"), false);
    }

    private static void named() {
        String fixed = "{\"type\":\"fixed\",\"name\":\"F\",\"size\":2}";
        due(fixed, fixed, true);
        due(fixed, fixed.replace("2", "3"), false);
        due(fixed, fixed.replace("F", "G"), false);
        due(fixed, symbols("F", "\"a\"", null), false);
        due(fixed, record("F"), false);
        due(record("F"), symbols("F", "\"a\"", "\"a\""), false);
        due(fixed, "\"bytes\"", false);
        due("\"string\"", fixed, false);
        due("[" + fixed + "," + array("\"F\"") + "]", "[" + array(fixed) + ",\"F\"]", true);
    }

    private static void enums() {
        due(symbols("E", "\"a\",\"b\"", null), symbols("E", "\"b\",\"c\",\"a\"", null), true);
        due(symbols("E", "\"a\",\"b\"", null), symbols("E", "\"b\",\"c\"", null), false);
        due(symbols("E", "\"a\",\"b\"", null), symbols("E", "\"b\",\"c\"", "\"c\""), true);
        due(symbols("E", "\"a\",\"b\"", "\"a\""), symbols("E", "\"b\",\"c\"", null), false);
        due(symbols("E", "\"a\"", null), symbols("G", "\"a\"", "\"a\""), false);
        due(symbols("E", "\"a\"", null), symbols("E", "\"ab\"", null), false);
        due(symbols("E", "\"ab\"", null), symbols("E", "\"a\"", null), false);
        String all = Kit.times("\"s#\"", ",", 32);
        due(symbols("E", all, null), symbols("E", all, null), true);
        due(symbols("E", all, null), symbols("E", all.replace("s31", "z"), null), false);
        due(symbols("E", all.replace("s31", "z"), null), symbols("E", all, null), false);
        // The default of a field whose type it is is not the enum's own.
        due(record("R", field("e", symbols("E", "\"b\"", null))),
            record("R", field("e", symbols("E", "\"a\"", "\"a\""))), true);
        due(record("R", field("e", symbols("E", "\"b\"", null))), record("R", field("e", symbols("E", "\"a\"", null))), false);
        // A name that stood before has the default of its definition.
        due(symbols("E", "\"b\"", null), "[\"null\"," + array(symbols("E", "\"a\"", "\"a\"")) + ",\"E\"]", true);
    }

    private static void records() {
        String ab = record("R", field("a", "\"int\""), field("b", "\"string\""));
        due(ab, record("R", field("b", "\"bytes\""), field("a", "\"long\"")), true);
        due(ab, record("R"), true);
        due(record("R"), ab, false);
        due(record("R"), record("S"), false);
        due(ab, record("R", field("c", "\"int\"")), false);
        due(ab, record("R", field("c", "\"int\"", "1")), true);
        due(ab, record("R", field("a", "\"string\"")), false);
        due(ab, record("R", field("aa", "\"int\"")), false);
        due(ab, record("R", field("a", "[\"null\",\"int\"]")), true);
        due(record("R", field("a", "\"int\"", "3")), record("R", field("b", "\"int\"")), false);
        // One of the writer's does not fit, or else: it has a default.
        due(ab, record("R", field("a", "\"string\"", "\"x\"")), true);
        due(ab, record("R", field("a", "[\"null\",\"boolean\"]", "null"), field("b", "\"string\"")), true);
        due(ab, record("R", field("a", "[\"null\",\"boolean\"]", "null"), field("b", "\"int\"")), false);
        // The writer's default serves nobody.
        due(record("R", field("a", "\"long\"", "1")), record("R", field("a", "\"int\"")), false);
        due(record("R", field("a", "\"int\"", "1")), record("R", field("b", "\"int\"")), false);
        due(record("R", field("a", "\"long\"", "1")), record("R", field("a", "\"long\"")), true);
        // The default that counts is that of the field, not that of what it means elsewhere.
        String inner = record("S", field("x", "\"int\""));
        due(record("R", field("p", inner)), record("R", field("p", inner), field("q", "\"S\"", "{\"x\":1}")), true);
        due(record("R", field("p", inner)), record("R", field("p", inner), field("q", "\"S\"")), false);
        due(record("R", field("p", inner), field("q", "\"S\"")),
            record("R", field("q", record("S", field("x", "\"long\""))), field("p", "\"S\"")), true);
        due(record("R", field("p", inner), field("q", "\"S\"")),
            record("R", field("q", record("S", field("x", "\"string\""))), field("p", "\"S\"")), false);
    }

    private static void recursion() {
        String list = record("R", field("v", "\"int\""), field("n", "[\"null\",\"R\"]"));
        String wide = record("R", field("n", "[\"R\",\"null\"]"), field("v", "\"long\""));
        due(list, list, true);
        due(list, wide, true);
        due(wide, list, false);
        String self = record("R", field("r", "\"R\""));
        due(self, self, true);
        due(self, record("R", field("r", "\"R\""), field("x", "\"int\"")), false);
        // A field that the writer lacks is not there for its type's being asked for already.
        due(record("R"), self, false);
        due(record("R", field("s", "\"R\"")), self, false);
        due(record("A", field("b", record("B", field("a", "\"A\""), field("b", array("\"B\""))))),
            record("A", field("b", record("B", field("b", array("\"B\"")), field("a", "\"A\"")))), true);
        // What fails behind a name that is being asked for still fails.
        due(record("A", field("b", record("B", field("a", "\"A\""), field("x", "\"long\"")))),
            record("A", field("b", record("B", field("a", "\"A\""), field("x", "\"int\"")))), false);
        due(record("A", field("a", "\"A\""), field("x", "\"long\"")),
            record("A", field("a", "[\"null\",\"A\"]"), field("x", "\"int\"")), false);
        // The way round takes the writer's union and the reader's name.
        due(record("A", field("a", "[\"A\"]")), record("A", field("a", "\"A\"")), true);
        due(record("A", field("a", "\"A\"")), record("A", field("a", array("\"A\""))), false);
    }

    /** A chain of records through which a way down is long, though none of them lies deep. */
    private static void longWays() {
        StringBuilder defs = new StringBuilder("\"null\"");
        StringBuilder fields = new StringBuilder();
        for (int i = 0; i < 39; i++) {
            String type = i == 0 ? "\"X\"" : "[\"R" + (i - 1) + "\"]";
            defs.append(",{\"type\":\"record\",\"name\":\"R").append(i).append("\",\"fields\":[")
                .append(field("a", type)).append("]}");
            if (i % 13 == 12) {
                fields.append(field("f" + i, "[" + defs + "]", "null")).append(',');
                defs = new StringBuilder("\"null\"");
            }
        }
        String text = "{\"type\":\"record\",\"name\":\"T\",\"fields\":[" + fields + field("z", "\"R38\"") + "]}";
        due(text.replace("\"X\"", "\"int\""), text.replace("\"X\"", "\"long\""), true);
        due(text.replace("\"X\"", "\"long\""), text.replace("\"X\"", "\"int\""), false);
    }

    private static void exceptions() {
        SchemaReader x = Kit.keeping("\"int\"");
        int[] noPlaces = {-1, 8, Integer.MIN_VALUE, Integer.MAX_VALUE};
        for (int place : noPlaces) {
            KIT.dueThrow("fits(0, no place)", () -> x.fits(0, place), IndexOutOfBoundsException.class);
            KIT.dueThrow("fits(no place, 0)", () -> x.fits(place, 0), IndexOutOfBoundsException.class);
            KIT.dueThrow("fits(1, no place)", () -> x.fits(1, place), IndexOutOfBoundsException.class);
            KIT.dueThrow("fits(no place, 1)", () -> x.fits(place, 1), IndexOutOfBoundsException.class);
        }
        KIT.dueThrow("fits(0, 1)", () -> x.fits(0, 1), IllegalStateException.class);
        KIT.dueThrow("fits(7, 0)", () -> x.fits(7, 0), IllegalStateException.class);
        KIT.due("fits(0, 0)", x.fits(0, 0), true);
    }
}
