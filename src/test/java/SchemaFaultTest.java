/** Promises 4 and 5: faults 2 to 14, their order and their places, and where there is none. */
final class SchemaFaultTest {
    private static final Kit KIT = new Kit("SchemaFaultTest");

    public static void main(String[] args) {
        whatIsNoSchema();
        words();
        unions();
        objects();
        names();
        fixed();
        enums();
        records();
        limits();
        order();
        latest();
        KIT.end();
    }

    private static void faults(int fault, String... marked) {
        for (String text : marked) {
            KIT.dueFaultAt(text, fault);
        }
    }

    private static void good(String... texts) {
        for (String text : texts) {
            KIT.dueGood(text);
        }
    }

    private static void whatIsNoSchema() {
        faults(2, "@1", "@true", " @false", "@null", "[@1]", "[\"int\", @null]", "{\"type\":\"array\",\"items\":@0}",
            "{\"type\":\"map\",\"values\":@true}",
            "{\"type\":\"record\",\"name\":\"R\",\"fields\":[{\"name\":\"a\",\"type\":@null}]}");
    }

    private static void words() {
        good("\"null\"", "\"boolean\"", "\"int\"", "\"long\"", "\"bytes\"", "\"string\"", "{\"type\":\"null\"}",
            "{\"type\":\"boolean\"}", "{\"type\":\"int\"}", "{\"type\":\"long\"}", "{\"type\":\"bytes\"}",
            "{\"type\":\"string\"}", "{\"type\":\"i\\u006et\",\"name\":3,\"items\":4}");
        faults(3, "@\"Int\"", "@\"\"", "@\"int \"", "@\"ints\"", "@\"in\"", "@\"array\"", "@\"map\"", "@\"fixed\"",
            "@\"enum\"", "@\"record\"", "@\"union\"", "@\"float\"", "{\"type\":@\"R\"}", "{\"type\":@\"\"}",
            "{\"type\":@\"union\"}", "[\"int\",@\"R\"]", "{\"type\":@\"\\u00ff\"}",
            "[@\"R\",{\"type\":\"record\",\"name\":\"R\",\"fields\":[]}]",
            "{\"type\":\"fixed\",\"name\":\"F\",\"size\":1,\"x\":\"G\"}".replace("\"x\"", "\"y\"").replace("{\"type\"",
                "[\"null\",@\"F\",{\"type\"") + "]");
        good("[{\"type\":\"fixed\",\"name\":\"F\",\"size\":1},{\"type\":\"array\",\"items\":\"F\"}]",
            "[{\"type\":\"enum\",\"name\":\"F\",\"symbols\":[\"a\"]},{\"type\":\"array\",\"items\":{\"type\":\"F\"}}]",
            "{\"type\":\"record\",\"name\":\"R\",\"fields\":[{\"name\":\"a\",\"type\":\"R\"}]}",
            "{\"type\":\"record\",\"name\":\"R\",\"fields\":[{\"name\":\"a\",\"type\":{\"type\":\"R\"}}]}");
        // A string that looks like a piece of a plain form is no name.
        faults(3, "[{\"type\":\"enum\",\"name\":\"E\",\"symbols\":[\"a\"]},@\"E\\\",\\\"type\"]",
            "[{\"type\":\"fixed\",\"name\":\"Ef\",\"size\":1},@\"E\"]",
            "[{\"type\":\"fixed\",\"name\":\"E\",\"size\":1},@\"Ef\"]");
    }

    private static void unions() {
        faults(4, "[@[\"int\"]]", "[@[]]", "[\"int\",@[\"int\"]]", "[\"int\", @[1,2,3]]");
        faults(5, "@[]", "{\"type\":\"array\",\"items\":@[]}", " @[ ]");
        String maps = "{\"type\":\"map\",\"values\":\"int\"}";
        String fixed = Kit.times("{\"type\":\"fixed\",\"name\":\"F#\",\"size\":1}", ",", 16);
        good("[\"int\"]", "[" + fixed + "]", "[\"null\",\"boolean\",\"int\",\"long\",\"bytes\",\"string\"]",
            "[{\"type\":\"array\",\"items\":[\"int\"]}," + maps + "]");
        faults(5, "@[" + fixed + ",\"int\"]", "@[" + Kit.times("\"int\"", ",", 17) + "]");
        faults(6, "[\"int\",@\"int\"]", "[\"int\",\"null\",@{\"type\":\"int\"}]", "[{\"type\":\"int\"}, @\"int\"]",
            "[{\"type\":\"array\",\"items\":\"int\"},@{\"type\":\"array\",\"items\":\"long\"}]",
            "[" + maps + ",@{\"type\":\"map\",\"values\":\"null\"}]",
            "[{\"type\":\"fixed\",\"name\":\"F\",\"size\":1},@\"F\"]",
            "[{\"type\":\"enum\",\"name\":\"F\",\"symbols\":[\"a\"]},@{\"type\":\"F\"}]",
            "[{\"type\":\"record\",\"name\":\"R\",\"fields\":[]},\"null\",@\"R\"]",
            "[\"int\",@\"int\",1]", "[\"int\",@\"int\",\"no\"]");
        faults(9, "[{\"type\":\"fixed\",\"name\":\"F\",\"size\":1},{\"type\":\"fixed\",\"name\":@\"F\",\"size\":1}]");
        // What is wrong within a branch comes before the branch's being there twice.
        faults(3, "[{\"type\":\"array\",\"items\":\"int\"},{\"type\":\"array\",\"items\":@\"x\"}]");
    }

    private static void objects() {
        faults(7, "@{}", "@{\"type\":1}", "@{\"type\":null}", "@{\"type\":[\"int\"]}", "@{\"type\":{\"type\":\"int\"}}",
            "@{\"Type\":\"int\"}", "[\"int\", @{\"name\":\"x\"}]");
        faults(8, "@{\"type\":\"array\"}", "@{\"type\":\"map\"}", "@{\"type\":\"array\",\"values\":\"int\"}",
            "@{\"type\":\"map\",\"items\":\"int\"}", "@{\"type\":\"fixed\"}", "@{\"type\":\"enum\"}",
            "@{\"type\":\"record\"}", "@{\"type\":\"fixed\",\"name\":1,\"size\":1}", "@{\"type\":\"enum\",\"name\":null}",
            "@{\"type\":\"record\",\"name\":[\"R\"],\"fields\":[]}", "@{\"type\":\"fixed\",\"name\":\"F\"}",
            "@{\"type\":\"enum\",\"name\":\"F\"}", "@{\"type\":\"record\",\"name\":\"F\"}");
        good("{\"items\":\"int\",\"type\":\"array\"}", "{\"values\":\"int\",\"type\":\"map\"}",
            "{\"it\\u0065ms\":\"int\",\"t\\u0079pe\":\"a\\u0072ray\",\"values\":7,\"doc\":{\"type\":[]}}",
            "{\"size\":3,\"name\":\"F\",\"type\":\"fixed\"}",
            "{\"fields\":[{\"type\":\"R\",\"name\":\"r\"}],\"name\":\"R\",\"type\":\"record\"}");
    }

    private static void names() {
        String a32 = "A".repeat(32);
        String[] goodNames = {"F", "_", "_1", "aZ09_", a32, "Int", "nul", "union", "type", "float", "double", "I\\u0041"};
        String[] badNames = {"", "1", "9a", "a-b", "a.b", "a b", a32 + "A", "\\u00e4", "a\\u0000", "a@", "a[", "a`", "a{",
            "a/", "a:", "^"};
        String[] taken = {"null", "boolean", "int", "long", "bytes", "string", "array", "map", "fixed", "enum", "record"};
        for (String name : goodNames) {
            good("{\"type\":\"fixed\",\"name\":\"" + name + "\",\"size\":1}", recordWithField(name), enumOf(name));
        }
        for (String name : badNames) {
            KIT.dueFault("{\"type\":\"fixed\",\"name\":\"" + name + "\",\"size\":1}", 9, 23);
            KIT.dueFault(recordWithField(name), 9, 46);
            KIT.dueFault(enumOf(name), 11, 37);
        }
        for (String name : taken) {
            KIT.dueFault("{\"type\":\"enum\",\"name\":\"" + name + "\",\"symbols\":[\"a\"]}", 9, 22);
            good(recordWithField(name), enumOf(name));
        }
        faults(9, "{\"type\":\"record\",\"name\":\"R\",\"fields\":[{\"name\":\"a\",\"type\":"
            + "{\"type\":\"enum\",\"name\":@\"R\",\"symbols\":[]}}]}",
            "{\"type\":\"fixed\",\"name\":@\"9\"}", "{\"type\":\"record\",\"name\":@\"\",\"fields\":3}");
    }

    private static String recordWithField(String name) {
        return "{\"type\":\"record\",\"name\":\"R\",\"fields\":[{\"name\":\"" + name + "\",\"type\":\"int\"}]}";
    }

    private static String enumOf(String symbol) {
        return "{\"type\":\"enum\",\"name\":\"E\",\"symbols\":[\"" + symbol + "\"]}";
    }

    private static void fixed() {
        String head = "{\"type\":\"fixed\",\"name\":\"F\",\"size\":";
        good(head + "0}", head + "-0}", head + "1}", head + "64}");
        String[] bad = {"65", "-1", "\"1\"", "null", "[1]", "{}", "true", "9223372036854775807", "-9223372036854775808",
            "4294967296", "4294967297"};
        for (String size : bad) {
            KIT.dueFault(head + size + "}", 10, head.length());
        }
    }

    private static void enums() {
        String head = "{\"type\":\"enum\",\"name\":\"E\",\"symbols\":";
        faults(11, head + "@[]}", head + "@3}", head + "@\"a\"}", head + "@{\"a\":1}}", head + "@null}",
            head + "[@1]}", head + "[\"a\",@null]}", head + "[\"a\",@[\"b\"]]}", head + "[\"a\",\"b\",@\"a\"]}",
            head + "[\"a\",@\"\\u0061\"]}", head + "[\"a\",@\"b c\",\"a\"]}", head + "[\"a\",@\"a\"],\"default\":\"z\"}",
            head + "[\"a\",\"b\",@\"a\\\",\\\"b\"]}", head + "@[" + Kit.times("\"s#\"", ",", 33) + "]}");
        good(head + "[" + Kit.times("\"s#\"", ",", 32) + "]}", head + "[\"a\"],\"default\":\"a\"}",
            head + "[\"a\",\"b\",\"ab\"],\"default\":\"\\u0061b\"}", head + "[\"a\",\"A\",\"aa\"]}");
        faults(12, head + "[\"a\"],\"default\":@\"b\"}", head + "[\"a\"],\"default\":@1}", head + "[\"a\"],\"default\":@null}",
            head + "[\"a\"],\"default\":@[\"a\"]}", head + "[\"a\",\"b\"],\"default\":@\"a\\\",\\\"b\"}",
            head + "[\"ab\"],\"default\":@\"a\"}", head + "[\"a\"],\"default\":@\"\"}");
        // An enum's default is looked at with the enum, before what stands behind it.
        faults(12, "[" + head + "[\"a\"],\"default\":@\"b\"},1]");
    }

    private static void records() {
        String head = "{\"type\":\"record\",\"name\":\"R\",\"fields\":";
        String fields = Kit.times("{\"name\":\"f#\",\"type\":\"int\"}", ",", 32);
        good(head + "[]}", head + "[" + fields + "]}");
        faults(11, head + "@3}", head + "@{}}", head + "@null}", head + "@\"a\"}", head + "[@3]}", head + "[@\"a\"]}",
            head + "[@[]]}", head + "@[" + fields + ",3]}", head + "[{\"name\":\"a\",\"type\":\"int\"},@null]}");
        faults(8, head + "[@{}]}", head + "[@{\"name\":3,\"type\":\"int\"}]}", head + "[@{\"type\":\"int\"}]}",
            head + "[@{\"name\":\"a\"}]}", head + "[{\"name\":\"a\",\"type\":\"int\"},@{\"name\":\"b\",\"default\":1}]}");
        faults(9, head + "[{\"name\":@\"\"}]}", head + "[{\"name\":\"a\",\"type\":\"int\"},{\"name\":@\"a\"}]}",
            head + "[{\"name\":\"a\",\"type\":\"int\"},{\"name\":\"b\",\"type\":\"int\"},{\"type\":1,\"name\":@\"\\u0061\"}]}");
        faults(2, head + "[{\"name\":\"a\",\"type\":@3,\"default\":5}]}");
        faults(3, head + "[{\"type\":@\"S\",\"name\":\"a\"}]}");
        // The same field names in another record, and a field named as its record, are fine.
        good(head + "[{\"name\":\"R\",\"type\":{\"type\":\"record\",\"name\":\"S\",\"fields\":"
            + "[{\"name\":\"R\",\"type\":\"int\"},{\"name\":\"S\",\"type\":\"S\"}]}},{\"name\":\"S\",\"type\":\"S\"}]}");
    }

    private static void limits() {
        String head = "{\"type\":\"record\",\"name\":\"R\",\"fields\":[";
        String four = Kit.times("{\"name\":\"f#\",\"type\":[\"int\",\"null\",\"long\"]}", ",", 31);
        good(head + four + ",{\"name\":\"z\",\"type\":[\"int\",\"null\"]}]}");
        faults(13, head + four + ",{\"name\":\"z\",\"type\":[\"int\",\"null\",@\"long\"]}]}",
            head + four + ",{\"name\":\"z\",\"type\":[\"int\",\"null\",@7]}]}",
            head + four + ",{\"name\":\"z\",\"type\":[\"int\",\"null\",@[]]}]}");
        // Too many comes before too deep, and before all that the value itself may lack.
        String open = "{\"type\":\"array\",\"items\":";
        good(open.repeat(15) + "\"int\"" + "}".repeat(15), open.repeat(15) + "{\"type\":\"int\"}" + "}".repeat(15));
        faults(14, open.repeat(16) + "@\"int\"" + "}".repeat(16), open.repeat(16) + "@null" + "}".repeat(16),
            open.repeat(15) + "[@\"int\"]" + "}".repeat(15), open.repeat(16) + "@[[1]]" + "}".repeat(16));
        good(open.repeat(14) + "[\"int\"]" + "}".repeat(14));
        String most = Kit.times("{\"name\":\"f#\",\"type\":[\"int\",\"null\",\"long\"]}", ",", 27);
        String deep = open.repeat(15) + "@4" + "}".repeat(15);
        // 1 + 27 * 4 are 109; fifteen arrays more are 124, so the value in them is only too deep.
        faults(14, head + most + ",{\"name\":\"z\",\"type\":" + deep + "}]}");
        String more = Kit.times("{\"name\":\"f#\",\"type\":[\"int\",\"null\",\"long\"]}", ",", 28);
        // 1 + 28 * 4 are 113; with fifteen arrays 128: too many and too deep at once.
        faults(13, head + more + ",{\"name\":\"z\",\"type\":" + deep + "}]}");
        // References count as schemas that are looked at, and lie as deep as they stand.
        faults(14, "{\"type\":\"record\",\"name\":\"R\",\"fields\":[{\"name\":\"a\",\"type\":" + open.repeat(15) + "@\"R\""
            + "}".repeat(15) + "}]}");
    }

    private static void order() {
        faults(1, "[1,[[\"int\"]]@");
        faults(4, "[@[1,1,1,1,1,1,1,1,1,1,1,1,1,1,1,1,1]]");
        faults(7, "[@{\"type\":3,\"items\":3},1]");
        faults(8, "@{\"type\":\"enum\",\"symbols\":3}");
        faults(9, "{\"type\":\"enum\",\"symbols\":3,\"name\":@\"int\"}");
        faults(11, "{\"default\":3,\"type\":\"enum\",\"symbols\":@3,\"name\":\"E\"}");
        faults(3, "{\"type\":\"record\",\"name\":\"R\",\"fields\":[{\"name\":\"a\",\"type\":\"int\",\"default\":\"x\"},"
            + "{\"name\":\"b\",\"type\":@\"x\"}]}");
    }

    private static void latest() {
        SchemaReader x = new SchemaReader();
        KIT.dueFault(x, "\"int\"", 0, -1);
        KIT.due("size()", x.size(), 5);
        KIT.dueFault(x, "[\"int\", 3]", 2, 8);
        KIT.dueThrow("keep behind a fault", () -> x.keep(0), IllegalStateException.class);
        KIT.dueThrow("letter behind a fault", () -> x.letter(0), IndexOutOfBoundsException.class);
        KIT.due("place() stays", x.place(), 8);
        x.end(0);
        KIT.due("place() stays behind end", x.place(), 8);
        KIT.dueFault(x, "\"long\"", 0, -1);
        KIT.due("plain", Kit.plain(x), "\"long\"");
        x.keep(3);
        KIT.due("place() behind keep", x.place(), -1);
    }
}
