/** Promises 4 and 5: fault 12 of the defaults of fields. */
final class DefaultsTest {
    private static final Kit KIT = new Kit("DefaultsTest");
    private static final String FIXED = "{\"type\":\"fixed\",\"name\":\"F\",\"size\":2}";
    private static final String ENUM = "{\"type\":\"enum\",\"name\":\"E\",\"symbols\":[\"a\",\"bc\"]}";
    private static final String INTS = "{\"type\":\"array\",\"items\":\"int\"}";
    private static final String LONGS = "{\"type\":\"map\",\"values\":\"long\"}";
    private static final String POINT = "{\"type\":\"record\",\"name\":\"P\",\"fields\":[{\"name\":\"x\",\"type\":\"int\"},"
        + "{\"name\":\"y\",\"type\":\"string\",\"default\":\"q\"}]}";

    public static void main(String[] args) {
        simple();
        withParts();
        unions();
        records();
        recursion();
        order();
        KIT.end();
    }

    private static String field(String name, String type, String value) {
        return "{\"name\":\"" + name + "\",\"type\":" + type + (value == null ? "" : ",\"default\":" + value) + "}";
    }

    private static String record(String name, String... fields) {
        return "{\"type\":\"record\",\"name\":\"" + name + "\",\"fields\":[" + String.join(",", fields) + "]}";
    }

    private static void fit(String type, String... values) {
        for (String value : values) {
            KIT.dueGood(record("R", field("f", type, value)));
        }
    }

    private static void misfit(String type, String... marked) {
        for (String value : marked) {
            KIT.dueFaultAt(record("R", field("f", type, value)), 12);
        }
    }

    private static void simple() {
        fit("\"null\"", "null");
        misfit("\"null\"", "@0", "@false", "@\"null\"", "@[]", "@{}");
        fit("\"boolean\"", "true", "false");
        misfit("\"boolean\"", "@0", "@null", "@\"true\"");
        fit("\"int\"", "0", "-0", "2147483647", "-2147483648");
        misfit("\"int\"", "@2147483648", "@-2147483649", "@9223372036854775807", "@4294967296", "@\"1\"", "@null", "@true");
        fit("\"long\"", "0", "2147483648", "9223372036854775807", "-9223372036854775808");
        misfit("\"long\"", "@\"1\"", "@null", "@[1]");
        fit("\"bytes\"", "\"\"", "\"\\u00ff\"", "\"abc\"");
        misfit("\"bytes\"", "@1", "@null", "@[\"a\"]");
        fit("\"string\"", "\"\"", "\"\\u00ff\"");
        misfit("\"string\"", "@1", "@null", "@{}");
        fit(FIXED, "\"ab\"", "\"\\u0000\\\\\"", "\"\\u00ff\\n\"");
        misfit(FIXED, "@\"\"", "@\"a\"", "@\"abc\"", "@12", "@null", "@\"\\u0041\"");
        fit("{\"type\":\"fixed\",\"name\":\"F\",\"size\":0}", "\"\"");
        misfit("{\"type\":\"fixed\",\"name\":\"F\",\"size\":0}", "@\"a\"", "@[]", "@{}");
        fit(ENUM, "\"a\"", "\"b\\u0063\"");
        misfit(ENUM, "@\"b\"", "@\"\"", "@0", "@null", "@\"a\\\",\\\"bc\"", "@\"abc\"");
        // The default of an enum itself does not help a value that is none of its symbols.
        misfit("{\"type\":\"enum\",\"name\":\"E\",\"symbols\":[\"a\"],\"default\":\"a\"}", "@\"b\"");
    }

    private static void withParts() {
        fit(INTS, "[]", "[1]", "[1,2,-3]");
        misfit(INTS, "@{}", "@1", "@null", "[@null]", "[1,@\"2\",null]", "[1,2,@[]]", "[1, @2147483648]");
        fit(LONGS, "{}", "{\"a\":1}", "{\"\":2147483648,\"\\u00ff\":2}");
        misfit(LONGS, "@[]", "@1", "{\"a\":@null}", "{\"b\":1,\"a\":@\"x\",\"0\":null}");
        String nested = "{\"type\":\"array\",\"items\":{\"type\":\"map\",\"values\":" + INTS + "}}";
        fit(nested, "[]", "[{}]", "[{\"a\":[]},{\"a\":[1],\"b\":[2]}]");
        misfit(nested, "[@[]]", "[{\"a\":@{}}]", "[{\"a\":[1]},{\"a\":[1,@null]},3]");
    }

    private static void unions() {
        fit("[\"null\",\"int\"]", "null");
        misfit("[\"null\",\"int\"]", "@1");
        fit("[\"int\",\"null\"]", "1");
        misfit("[\"int\",\"null\"]", "@null");
        fit("{\"type\":\"array\",\"items\":[\"int\",\"string\"]}", "[1,2]");
        misfit("{\"type\":\"array\",\"items\":[\"int\",\"string\"]}", "[1,@\"a\"]");
        fit("[" + INTS + ",\"null\"]", "[1]");
        misfit("[" + INTS + ",\"null\"]", "[@null]", "@null");
        fit("[" + POINT + ",\"null\"]", "{\"x\":1,\"y\":\"\"}");
    }

    private static void records() {
        fit(POINT, "{\"x\":1,\"y\":\"\"}", "{\"y\":\"\",\"z\":null,\"x\":1}", "{\"\\u0078\":1,\"y\":\"\"}");
        // A member lacks even where its field has a default of its own.
        misfit(POINT, "@[]", "@null", "@{}", "@{\"x\":1}", "@{\"y\":\"\"}", "{\"x\":@null,\"y\":\"\"}",
            "{\"y\":@1,\"x\":1}", "{\"y\":1,\"x\":@\"\"}", "{\"x\":@\"\"}", "@{\"y\":3}", "@{\"X\":1,\"y\":\"\"}");
        fit("{\"type\":\"record\",\"name\":\"N\",\"fields\":[]}", "{}", "{\"a\":1}");
        misfit("{\"type\":\"record\",\"name\":\"N\",\"fields\":[]}", "@[]", "@null");
        misfit("{\"type\":\"array\",\"items\":" + POINT + "}", "[{\"x\":1,\"y\":\"\"},@{\"x\":1}]",
            "[{\"x\":1,\"y\":\"\"},{\"x\":1,\"y\":@2}]");
    }

    private static void recursion() {
        KIT.dueGood(record("R", field("r", "[\"null\",\"R\"]", "null"), field("i", "\"int\"", "1")));
        KIT.dueFaultAt(record("R", field("r", "\"R\"", "@{}")), 12);
        KIT.dueFaultAt(record("R", field("r", "\"R\"", "{\"r\":{\"r\":@{}}}")), 12);
        KIT.dueFaultAt(record("R", field("r", "\"R\"", "{\"r\":{\"r\":@3}}")), 12);
        String list = "{\"type\":\"array\",\"items\":\"R\"}";
        KIT.dueGood(record("R", field("r", list, "[]")));
        KIT.dueGood(record("R", field("r", list, "[{\"r\":[]},{\"r\":[{\"r\":[]}]}]")));
        KIT.dueFaultAt(record("R", field("r", list, "[{\"r\":[]},{\"r\":[@{}]}]")), 12);
        // A field's default is told by all fields of its record, also by those that come later.
        KIT.dueFaultAt(record("R", field("r", list, "[@{\"r\":[]}]"), field("z", "\"int\"", null)), 12);
        KIT.dueGood(record("R", field("r", list, "[{\"r\":[],\"z\":1}]"), field("z", "\"int\"", null)));
        String deep = "{\"r\":".repeat(20) + "null" + "}".repeat(20);
        KIT.dueFaultAt(record("R", field("r", "[\"R\",\"null\"]", deep.replace("null", "@null"))), 12);
    }

    private static void order() {
        // Defaults are looked at behind all schemas, and in the order of the fields.
        KIT.dueFaultAt(record("R", field("a", "\"int\"", "\"x\""), field("b", "@\"no\"", "3")), 3);
        KIT.dueFaultAt(record("R", field("a", "\"int\"", "@\"x\""), field("b", "\"int\"", "\"y\"")), 12);
        KIT.dueFaultAt("[" + record("R", field("a", "\"int\"", "\"x\"")) + ",@3]", 2);
        KIT.dueFaultAt("[" + record("R", field("a", "\"int\"", "@\"x\"")) + "," + record("S", field("a", "\"int\"", "\"x\""))
            + "]", 12);
        // A field's default comes behind those that lie in its type, wherever it stands in the text.
        String inner = record("S", field("x", "\"int\"", "@\"x\""));
        KIT.dueFaultAt(record("R", "{\"default\":7,\"name\":\"a\",\"type\":" + inner + "}"), 12);
        KIT.dueFaultAt(record("R", field("a", record("S", field("x", "\"int\"", "1")), "@7"),
            field("b", "\"int\"", "null")), 12);
        KIT.dueFaultAt(record("R", field("a", "\"int\"", "@null"), field("b", record("S", field("x", "\"int\"", "\"x\"")),
            "7")), 12);
        KIT.dueFaultAt(record("R", field("a", "{\"type\":\"array\",\"items\":" + record("S",
            field("x", "\"int\"", "1"), field("y", "\"int\"", "@\"y\"")) + "}", "7"), field("b", "\"int\"", "null")), 12);
        // An enum's own default is no default of a field: it comes with the enum.
        KIT.dueFaultAt(record("R", field("a", "\"int\"", "\"x\""),
            field("b", "{\"type\":\"enum\",\"name\":\"E\",\"symbols\":[\"a\"],\"default\":@\"b\"}", null)), 12);
    }
}
