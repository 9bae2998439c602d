/**
 * The boundaries of "must FIT their schemas": the defaults of fields, fault 12. Each method is
 * about the one sentence that its comment quotes: the last case that is allowed, and the first
 * that is not.
 */
final class DefaultEdgeTest {
    private static final Kit KIT = new Kit("DefaultEdgeTest");
    private static final String[] OF_EACH_KIND = {"null", "true", "0", "\"\"", "[]", "{}"};

    public static void main(String[] args) {
        wordsTakeTheirKindAlone();
        intsOf32Bits();
        longsOf64Bits();
        fixedOfJustItsSize();
        symbolsFirstAndLast();
        emptyListsAndMaps();
        listsInOrderOfTheText();
        mapsInOrderOfTheText();
        firstBranchAlone();
        recordsOf0to32Fields();
        recordsInOrderOfTheirFields();
        asDeepAsBracketsGo();
        allFieldsDefaults();
        noDefault();
        KIT.end();
    }

    private static void fit(String type, String... values) {
        for (String value : values) {
            KIT.dueGood(Texts.withDefault(type, value));
        }
    }

    private static void misfit(String type, String... marked) {
        for (String value : marked) {
            KIT.dueFaultAt(Texts.withDefault(type, value), 12);
        }
    }

    /** "null: null. BOOLEAN: true or false. INT, LONG: a number. BYTES, STRING: a string", and so on. */
    private static void wordsTakeTheirKindAlone() {
        String[] types = {"\"null\"", "\"boolean\"", "\"int\"", "\"long\"", "\"bytes\"", "\"string\"", Texts.fixed("\"F\"", "0"),
            Texts.array("\"int\""), Texts.map("\"int\""), Texts.record("\"S\"")};
        int[] takes = {0, 1, 2, 2, 3, 3, 3, 4, 5, 5};
        for (int i = 0; i < types.length; i++) {
            for (int k = 0; k < OF_EACH_KIND.length; k++) {
                for (String type : new String[] {types[i], "[" + types[i] + "]"}) {
                    if (takes[i] == k) {
                        fit(type, OF_EACH_KIND[k]);
                    } else {
                        misfit(type, "@" + OF_EACH_KIND[k]);
                    }
                }
            }
        }
        fit("\"boolean\"", "false");
    }

    /** "INT: a number within 32 bits". */
    private static void intsOf32Bits() {
        fit("\"int\"", "2147483646", "2147483647", "-2147483647", "-2147483648", "0", "-0", "-1");
        misfit("\"int\"", "@2147483648", "@-2147483649", "@4294967295", "@4294967296", "@-4294967296", "@4294967297",
            "@9223372036854775807", "@-9223372036854775808");
    }

    /** "LONG: a number within 64 bits": beyond them it is no number at all. */
    private static void longsOf64Bits() {
        fit("\"long\"", "2147483648", "-2147483649", "9223372036854775807", "-9223372036854775808");
        KIT.dueFaultAt(Texts.withDefault("\"long\"", "@9223372036854775808"), 1);
        KIT.dueFaultAt(Texts.withDefault("\"long\"", "@-9223372036854775809"), 1);
    }

    /** "FIXED: one of just its size": bytes are counted, not the letters that tell them. */
    private static void fixedOfJustItsSize() {
        for (int size : new int[] {0, 1, 2, 63, 64}) {
            String type = Texts.fixed("\"F\"", "" + size);
            fit(type, Texts.quoted("a".repeat(size)), Texts.quoted("\\n".repeat(size)), Texts.quoted("\\u00ff".repeat(size)),
                Texts.quoted("\\u0000".repeat(size)));
            misfit(type, "@" + Texts.quoted("a".repeat(size + 1)), "@" + Texts.quoted("\\\"".repeat(size + 1)));
            if (size > 0) {
                misfit(type, "@" + Texts.quoted("a".repeat(size - 1)), "@" + Texts.quoted("\\u0041".repeat(size - 1)), "@\"\"");
            }
        }
    }

    /** "ENUM: one of its symbols": of 32 the first and the last one. */
    private static void symbolsFirstAndLast() {
        String type = Texts.enumOf("\"E\"", Texts.list(32, "\"s#\""));
        fit(type, "\"s0\"", "\"s31\"", "\"\\u00731\"");
        misfit(type, "@\"s32\"", "@\"s\"", "@\"s00\"", "@\"S0\"", "@\"\"", "@\"s0\\u0000\"", "@\"s0\\\"\"", "@\"E\"", "@0", "@null");
    }

    /** "a list whose values all fit", "an object whose values all fit": also if there are none. */
    private static void emptyListsAndMaps() {
        fit(Texts.array("\"null\""), "[]", "[ ]", "[null]");
        fit(Texts.map("\"null\""), "{}", "{ }", "{\"\":null}");
        fit(Texts.array(Texts.fixed("\"F\"", "0")), "[]", "[\"\"]", "[\"\",\"\"]");
        misfit(Texts.array("\"null\""), "@{}", "@null", "[@[]]");
        misfit(Texts.map("\"null\""), "@[]", "@null", "{\"\":@{}}");
    }

    /** "12 at the first value that does not (lists in order of the text)": first, in the middle, last. */
    private static void listsInOrderOfTheText() {
        String type = Texts.array("\"int\"");
        fit(type, Texts.list(300, "#"));
        misfit(type, "[@null" + ",1".repeat(300) + "]", "[1" + ",1".repeat(300) + ",@null]", "[1,@null,null]", "[1,@\"\",null,1]");
        misfit(Texts.array(type), "[[1],[],@1,[null]]", "[[],[1,@null],1]");
    }

    /** "12 at the first value that does not (maps in order of the text)": whatever their strings are. */
    private static void mapsInOrderOfTheText() {
        String type = Texts.map("\"int\"");
        fit(type, "{" + Kit.times("\"#\":#", ",", 300) + "}");
        misfit(type, "{\"b\":@null,\"a\":null}", "{\"c\":1,\"b\":@\"\",\"a\":null}",
            "{" + Kit.times("\"#\":#", ",", 300) + ",\"\":@null}");
        misfit(Texts.map(type), "{\"z\":{\"a\":1},\"y\":{\"q\":1,\"p\":@null},\"x\":1}");
    }

    /** "A union: what fits its first branch": one branch, and the second one of two, and of sixteen. */
    private static void firstBranchAlone() {
        fit("[\"int\"]", "1");
        misfit("[\"int\"]", "@null");
        fit("[\"int\",\"null\"]", "1");
        misfit("[\"int\",\"null\"]", "@null", "@2147483648");
        String sixteen = "[\"null\",\"boolean\",\"int\",\"long\",\"bytes\",\"string\"," + Texts.array("\"int\"") + ","
            + Texts.map("\"int\"") + "," + Kit.times("{\"type\":\"record\",\"name\":\"S#\",\"fields\":[]}", ",", 8) + "]";
        fit(sixteen, "null");
        misfit(sixteen, "@true", "@1", "@\"\"", "@[]", "@{}");
        // A name that stood before is its first branch as well.
        KIT.dueGood(Texts.record("\"R\"", Texts.field("\"a\"", Texts.fixed("\"F\"", "1")), Texts.field("\"b\"", "[\"F\",\"null\"]", "\"x\"")));
        KIT.dueFaultAt(Texts.record("\"R\"", Texts.field("\"a\"", Texts.fixed("\"F\"", "1")),
            Texts.field("\"b\"", "[\"F\",\"null\"]", "@null")), 12);
    }

    /** "A record: an object that has a member for each of its fields, which fits"; "at the object if a member lacks". */
    private static void recordsOf0to32Fields() {
        fit(Texts.record("\"S\""), "{}", "{\"a\":1}");
        misfit(Texts.record("\"S\""), "@[]", "@null", "@\"\"");
        String one = Texts.record("\"S\"", Texts.field("\"a\"", "\"int\""));
        fit(one, "{\"a\":1}", "{\"b\":null,\"a\":1,\"c\":null}");
        misfit(one, "@{}", "@{\"A\":1}", "@{\"\":1}", "@{\"aa\":1}", "{\"a\":@null}");
        String most = Texts.record("\"S\"", Kit.times("{\"name\":\"f#\",\"type\":\"int\"}", ",", 32));
        String members = Kit.times("\"f#\":#", ",", 32);
        fit(most, "{" + members + "}", "{" + members + ",\"f32\":null}");
        misfit(most, "@{" + members.replace("\"f0\"", "\"g\"") + "}", "@{" + members.replace("\"f31\"", "\"g\"") + "}",
            "{" + members.replace(":31", ":@null") + "}", "{" + members.replace("\"f0\":0", "\"f0\":@null") + "}");
        // A default of the field that lacks does not stand in for the member.
        misfit(Texts.record("\"S\"", Texts.field("\"a\"", "\"int\"", "1")), "@{}");
    }

    /** "records in order of their fields": not in order of the text. */
    private static void recordsInOrderOfTheirFields() {
        String two = Texts.record("\"S\"", Texts.field("\"a\"", "\"int\""), Texts.field("\"b\"", "\"int\""));
        fit(two, "{\"a\":1,\"b\":1}", "{\"b\":1,\"a\":1}");
        misfit(two, "{\"b\":null,\"a\":@null}", "{\"a\":@null,\"b\":null}", "{\"b\":@null,\"a\":1}", "@{\"b\":null}", "@{\"a\":1}");
    }

    /** "a 25th { or [" bounds how deep a default goes; three of them stand around it here. */
    private static void asDeepAsBracketsGo() {
        String type = Texts.array("\"R\"");
        String inner = "[{\"f\":".repeat(10);
        fit(type, inner + "[]" + "}]".repeat(10));
        misfit(type, inner + "@1" + "}]".repeat(10), inner + "@null" + "}]".repeat(10));
        KIT.dueFaultAt(Texts.withDefault(type, inner + "[@[]]" + "}]".repeat(10)), 1);
        String maps = "{\"k\":{\"f\":".repeat(10);
        fit(Texts.map("\"R\""), maps + "{}" + "}}".repeat(10));
        misfit(Texts.map("\"R\""), maps + "@[]" + "}}".repeat(10), maps + "{\"k\":@1}" + "}}".repeat(10));
        KIT.dueFaultAt(Texts.withDefault(Texts.map("\"R\""), maps + "{\"k\":@{}}" + "}}".repeat(10)), 1);
        // A number in the 21st bracket of the default, which is the 24th of the text.
        String head = "{\"type\":\"record\",\"name\":\"R\",\"fields\":[{\"name\":\"g\",\"type\":" + Texts.array("\"int\"")
            + "},{\"name\":\"f\",\"type\":" + Texts.array("\"R\"") + ",\"default\":";
        String open = "[{\"g\":[],\"f\":".repeat(9) + "[{\"f\":[],\"g\":[";
        String close = "]}]" + "}]".repeat(9) + "}]}";
        KIT.dueGood(head + open + "1" + close);
        KIT.dueFaultAt(head + open + "1,@null" + close, 12);
        KIT.dueFaultAt(head + open + "@[]" + close, 1);
        misfit("[\"R\"]", "{\"f\":".repeat(20) + "@{}" + "}".repeat(20), "{\"f\":".repeat(21) + "@1" + "}".repeat(21));
    }

    /** "a field's behind those of the fields that lie in its type, else in the order in which they were looked at". */
    private static void allFieldsDefaults() {
        String text = nested(-1, -1);
        KIT.dueGood(text);
        for (int i = 0; i < 93; i++) {
            KIT.dueFaultAt(nested(i, i), 12);
            KIT.dueFaultAt(nested(i, 92), 12);
        }
        // Of three levels with a default that does not fit the innermost is told first.
        KIT.dueFaultAt(levels("@\"x\"", "7", "8"), 12);
        KIT.dueFaultAt(levels("1", "@7", "8"), 12);
        KIT.dueFaultAt(levels("1", "{\"t\":1}", "@8"), 12);
        KIT.dueGood(levels("1", "{\"t\":1}", "{\"s\":{\"t\":1}}"));
    }

    private static String levels(String inmost, String middle, String around) {
        String t = Texts.record("\"T\"", Texts.field("\"t\"", "\"int\"", inmost));
        String s = Texts.record("\"S\"", Texts.field("\"s\"", t, middle));
        return Texts.record("\"R\"", Texts.field("\"r\"", s, around));
    }

    /** Three records within one another, 93 fields with defaults in all; the one marked and another are wrong. */
    private static String nested(int marked, int wrong) {
        String inner = "";
        for (int level = 2; level >= 0; level--) {
            StringBuilder fields = new StringBuilder();
            for (int i = 0; i < 31; i++) {
                int number = (2 - level) * 31 + i;
                String value = number == marked ? "@null" : number == wrong ? "null" : "1";
                fields.append(i == 0 ? "" : ",").append(Texts.field("\"f" + i + "\"", "\"int\"", value));
            }
            // Within comes before around it, as the record with the inner fields is the first field's type.
            String first = inner.isEmpty() ? "" : Texts.field("\"r\"", inner) + ",";
            inner = Texts.record("\"R" + level + "\"", first + fields);
        }
        return inner;
    }

    /** "the members \"default\" of all fields": a field that has none, and one of something else, need not fit. */
    private static void noDefault() {
        KIT.dueGood(Texts.record("\"R\"", Texts.field("\"a\"", "\"int\"")));
        KIT.dueGood(Texts.record("\"R\"", "{\"name\":\"a\",\"type\":\"int\",\"Default\":null}"));
        KIT.dueGood(Texts.record("\"R\"", "{\"name\":\"a\",\"type\":{\"type\":\"int\",\"default\":null}}"));
        KIT.dueGood("{\"type\":\"record\",\"name\":\"R\",\"fields\":[],\"default\":null}");
        KIT.dueGood("{\"type\":\"fixed\",\"name\":\"F\",\"size\":3,\"default\":null}");
        KIT.dueGood("{\"type\":\"array\",\"items\":\"int\",\"default\":null}");
    }
}
