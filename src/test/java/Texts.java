/** Texts of schemas, put together from their parts. */
final class Texts {
    static final String[] SIX = {"\"null\"", "\"boolean\"", "\"int\"", "\"long\"", "\"bytes\"", "\"string\""};

    private Texts() {
    }

    static String quoted(String letters) {
        return "\"" + letters + "\"";
    }

    static String array(String items) {
        return "{\"type\":\"array\",\"items\":" + items + "}";
    }

    static String map(String values) {
        return "{\"type\":\"map\",\"values\":" + values + "}";
    }

    /** The type in that many arrays, one within the other. */
    static String arrays(int n, String type) {
        return "{\"type\":\"array\",\"items\":".repeat(n) + type + "}".repeat(n);
    }

    static String fixed(String name, String size) {
        return "{\"type\":\"fixed\",\"name\":" + name + ",\"size\":" + size + "}";
    }

    static String enumOf(String name, String symbols) {
        return "{\"type\":\"enum\",\"name\":" + name + ",\"symbols\":" + symbols + "}";
    }

    static String enumOf(String name, String symbols, String value) {
        return "{\"type\":\"enum\",\"name\":" + name + ",\"symbols\":" + symbols + ",\"default\":" + value + "}";
    }

    static String record(String name, String... fields) {
        return "{\"type\":\"record\",\"name\":" + name + ",\"fields\":[" + String.join(",", fields) + "]}";
    }

    static String field(String name, String type) {
        return "{\"name\":" + name + ",\"type\":" + type + "}";
    }

    static String field(String name, String type, String value) {
        return "{\"name\":" + name + ",\"type\":" + type + ",\"default\":" + value + "}";
    }

    /** A record with one field of that type and that default. */
    static String withDefault(String type, String value) {
        return record("\"R\"", field("\"f\"", type, value));
    }

    /** A list of so many parts, # in them being the part's number. */
    static String list(int n, String part) {
        return "[" + Kit.times(part, ",", n) + "]";
    }

    /** The byte as an escape of four hex digits. */
    static String escaped(int b) {
        return String.format("\\u%04x", b);
    }
}
