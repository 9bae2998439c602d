/** Promise 11: matches. */
final class MatchesTest {
    private static final Kit KIT = new Kit("MatchesTest");

    public static void main(String[] args) {
        sixWords();
        withParts();
        named();
        exceptions();
        KIT.end();
    }

    private static void due(String w, String r, boolean due) {
        KIT.due(w + " matches " + r, Kit.keeping(w, r).matches(0, 1), due);
    }

    private static void sixWords() {
        String[] words = {"\"null\"", "\"boolean\"", "\"int\"", "\"long\"", "\"bytes\"", "\"string\""};
        for (int i = 0; i < 6; i++) {
            for (int k = 0; k < 6; k++) {
                due(words[i], words[k], i == k || i == 2 && k == 3 || i == 4 && k == 5 || i == 5 && k == 4);
            }
            due(words[i], "[\"null\"]", true);
            due("[\"null\"]", words[i], true);
            due(words[i], "{\"type\":\"array\",\"items\":" + words[i] + "}", false);
            due("{\"type\":\"map\",\"values\":" + words[i] + "}", words[i], false);
        }
    }

    private static String array(String items) {
        return "{\"type\":\"array\",\"items\":" + items + "}";
    }

    private static String map(String values) {
        return "{\"type\":\"map\",\"values\":" + values + "}";
    }

    private static void withParts() {
        due(array("\"int\""), array("\"long\""), true);
        due(array("\"long\""), array("\"int\""), false);
        due(map("\"bytes\""), map("\"string\""), true);
        due(map("\"int\""), map("\"string\""), false);
        due(array("\"int\""), map("\"int\""), false);
        due(map("\"int\""), array("\"int\""), false);
        due(array("[\"null\"]"), array("\"int\""), true);
        due(array("\"int\""), array("[\"null\"]"), true);
        due(array(map("\"int\"")), array(map("\"long\"")), true);
        due(array(map("\"int\"")), array(array("\"int\"")), false);
        due(array(map("[\"int\"]")), array(array("\"int\"")), false);
        due("[\"int\"]", "[\"string\"]", true);
        due("[\"int\"]", array("\"string\""), true);
        String deep = "{\"type\":\"array\",\"items\":".repeat(15);
        due(deep + "\"int\"" + "}".repeat(15), deep + "\"long\"" + "}".repeat(15), true);
        due(deep + "\"long\"" + "}".repeat(15), deep + "\"int\"" + "}".repeat(15), false);
    }

    private static void named() {
        String[] texts = {
            "{\"type\":\"fixed\",\"name\":\"A\",\"size\":2}", "{\"type\":\"fixed\",\"name\":\"A\",\"size\":3}",
            "{\"type\":\"fixed\",\"name\":\"B\",\"size\":2}", "{\"type\":\"enum\",\"name\":\"A\",\"symbols\":[\"a\"]}",
            "{\"type\":\"enum\",\"name\":\"A\",\"symbols\":[\"b\"]}", "{\"type\":\"enum\",\"name\":\"AA\",\"symbols\":[\"a\"]}",
            "{\"type\":\"record\",\"name\":\"A\",\"fields\":[]}",
            "{\"type\":\"record\",\"name\":\"A\",\"fields\":[{\"name\":\"x\",\"type\":\"int\"}]}",
        };
        for (int i = 0; i < texts.length; i++) {
            for (int k = 0; k < texts.length; k++) {
                boolean isSame = i == k || i / 2 == k / 2 && (i == 6 || i == 7) || i + k == 7 && (i == 3 || i == 4);
                due(texts[i], texts[k], isSame);
                due(array(texts[i]), array(texts[k]), isSame);
            }
        }
        // A name that stood before is what it means.
        String twice = "{\"type\":\"record\",\"name\":\"R\",\"fields\":[{\"name\":\"x\",\"type\":\"int\"}]}";
        due(twice, "{\"type\":\"record\",\"name\":\"R\",\"fields\":[{\"name\":\"x\",\"type\":\"string\"}]}", true);
        due(twice, "{\"type\":\"record\",\"name\":\"r\",\"fields\":[{\"name\":\"x\",\"type\":\"int\"}]}", false);
        String long32 = "N".repeat(32);
        due(twice.replace("R", long32), twice.replace("R", long32), true);
        due(twice.replace("R", long32), twice.replace("R", "N".repeat(31) + "M"), false);
        due(twice.replace("R", long32), twice.replace("R", "N".repeat(31)), false);
    }

    private static void exceptions() {
        SchemaReader x = Kit.keeping("\"int\"");
        int[] noPlaces = {-1, 8, Integer.MIN_VALUE, Integer.MAX_VALUE};
        for (int place : noPlaces) {
            KIT.dueThrow("matches(0, no place)", () -> x.matches(0, place), IndexOutOfBoundsException.class);
            KIT.dueThrow("matches(no place, 0)", () -> x.matches(place, 0), IndexOutOfBoundsException.class);
            KIT.dueThrow("matches(1, no place)", () -> x.matches(1, place), IndexOutOfBoundsException.class);
            KIT.dueThrow("matches(no place, 1)", () -> x.matches(place, 1), IndexOutOfBoundsException.class);
        }
        KIT.dueThrow("matches(0, 1)", () -> x.matches(0, 1), IllegalStateException.class);
        KIT.dueThrow("matches(7, 0)", () -> x.matches(7, 0), IllegalStateException.class);
        KIT.due("matches(0, 0)", x.matches(0, 0), true);
    }
}
