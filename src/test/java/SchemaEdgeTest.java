/**
 * The boundaries of the document's second part: faults 2 to 14. Each method is about the one
 * sentence that its comment quotes: the last case that is allowed, and the first that is not.
 */
final class SchemaEdgeTest {
    private static final Kit KIT = new Kit("SchemaEdgeTest");
    private static final String UNION_OF_3 = "{\"name\":\"f#\",\"type\":[\"int\",\"null\",\"long\"]}";
    private static final String[] TAKEN = {"null", "boolean", "int", "long", "bytes", "string", "array", "map", "fixed",
        "enum", "record"};

    public static void main(String[] args) {
        schemas128();
        everySchemaCounts();
        within16();
        everyKindIsALevel();
        branches1to16();
        branchesOnce();
        namesOf1to32();
        longestNamesAreKnownAgain();
        namesLetters();
        namesTaken();
        namesDefinedFromHereOn();
        sizes0to64();
        symbols1to32();
        symbolsOnce();
        enumsDefault();
        fields0to32();
        fieldsOnce();
        membersThatLack();
        earlierFaultIsTold();
        firstFaultEndsAll();
        KIT.end();
    }

    private static void good(String... texts) {
        for (String text : texts) {
            KIT.dueGood(text);
        }
    }

    private static void faults(int fault, String... marked) {
        for (String text : marked) {
            KIT.dueFaultAt(text, fault);
        }
    }

    /** A record in which so many schemas are looked at before the last value. */
    private static String behind(int n, String last) {
        return behind(n, last, UNION_OF_3);
    }

    /** The same, with fields in each of which four schemas are looked at. */
    private static String behind(int n, String last, String field) {
        String fields = Kit.times(field, ",", (n - 1) / 4);
        String type = Texts.arrays((n - 1) % 4, last);
        return Texts.record("\"R\"", fields, Texts.field("\"z\"", type));
    }

    /** "13 there are 128 already: at v". */
    private static void schemas128() {
        for (int n = 124; n <= 127; n++) {
            good(behind(n, "\"int\""));
        }
        good(behind(127, "{\"type\":\"int\"}"), behind(127, "\"R\""), behind(127, "{\"type\":\"R\"}"),
            behind(127, Texts.fixed("\"F\"", "0")), behind(127, Texts.enumOf("\"E\"", "[\"a\"]")),
            behind(127, Texts.record("\"S\"")));
        faults(13, behind(128, "@\"int\""), behind(128, "@{\"type\":\"int\"}"), behind(128, "@\"R\""),
            behind(128, "@" + Texts.fixed("\"F\"", "0")), behind(128, "@[\"int\"]"), behind(128, "@" + Texts.array("\"int\"")));
        faults(13, behind(127, "[@\"int\"]"), behind(126, "[\"int\",@\"null\"]"), behind(127, Texts.array("@\"int\"")),
            behind(127, Texts.map("@\"int\"")), behind(127, Texts.record("\"S\"", Texts.field("\"a\"", "@\"int\""))));
        good(behind(126, "[\"int\"]"), behind(126, Texts.array("\"int\"")), behind(126, Texts.map("\"int\"")),
            behind(126, Texts.record("\"S\"", Texts.field("\"a\"", "\"int\""))));
    }

    /** "each value that is looked at as a schema is one": and nothing else is. */
    private static void everySchemaCounts() {
        // Symbols, fields, members that do not count and the string of a member "type" are none.
        String symbols = Texts.list(32, "\"s#\"");
        good(behind(127, Texts.enumOf("\"E\"", symbols)), behind(126, Texts.array("{\"type\":\"R\",\"doc\":[\"int\",\"int\"]}")));
        good("{\"type\":\"int\",\"items\":" + Texts.list(200, "\"int\"") + "}");
        // However it is written, a schema is one, and a name that stood before is one as well.
        String[] fours = {"[{\"type\":\"int\"},{\"type\":\"null\"},{\"type\":\"R\"}]", "[\"R\",\"int\",{\"type\":\"long\"}]",
            "[\"null\"," + Texts.array("\"R\"") + "]", "[" + Texts.map("{\"type\":\"R\"}") + ",\"R\"]", Texts.arrays(3, "\"R\""),
            Texts.record("\"S#\"", Texts.field("\"a\"", "[\"R\",\"S#\"]")),
            "[\"int\"," + Texts.fixed("\"F#\"", "1") + "," + Texts.enumOf("\"E#\"", "[\"a\",\"b\"]") + "]"};
        for (String four : fours) {
            String field = "{\"name\":\"f#\",\"type\":" + four + "}";
            good(behind(127, "\"int\"", field), behind(126, "[\"R\"]", field), behind(127, "{\"type\":\"R\"}", field));
            faults(13, behind(128, "@\"int\"", field), behind(128, "@\"R\"", field), behind(127, "[@\"R\"]", field));
        }
        // A text that was looked at before does not count for the next one.
        SchemaReader x = new SchemaReader();
        for (int i = 0; i < 3; i++) {
            KIT.dueFault(x, behind(127, "\"int\""), 0, SchemaReader.NONE);
        }
        KIT.dueFault(x, behind(128, "\"int\""), 13, behind(128, "@").indexOf('@'));
        KIT.dueFault(x, behind(127, "\"int\""), 0, SchemaReader.NONE);
    }

    /** "14 it lies in 16 others: at v". */
    private static void within16() {
        good(Texts.arrays(14, "\"int\""), Texts.arrays(15, "\"int\""), Texts.arrays(15, "{\"type\":\"int\"}"),
            Texts.arrays(15, Texts.fixed("\"F\"", "1")), Texts.arrays(15, Texts.enumOf("\"E\"", "[\"a\"]")),
            Texts.arrays(15, Texts.record("\"R\"")), Texts.arrays(14, "[\"int\",\"null\"]"), Texts.arrays(14, Texts.map("\"int\"")),
            Texts.arrays(14, Texts.record("\"R\"", Texts.field("\"a\"", "\"R\""))));
        faults(14, Texts.arrays(16, "@\"int\""), Texts.arrays(16, "@{\"type\":\"int\"}"), Texts.arrays(16, "@null"),
            Texts.arrays(16, "@\"no\""), Texts.arrays(16, "@[]"), Texts.arrays(16, "@{}"),
            Texts.arrays(16, "@" + Texts.array("\"int\"")), Texts.arrays(15, "[@\"int\",\"null\"]"),
            Texts.arrays(15, Texts.map("@\"int\"")), Texts.arrays(15, Texts.record("\"R\"", Texts.field("\"a\"", "@\"R\""))));
        // What is wrong with the list or the object itself comes before what lies in it.
        faults(5, Texts.arrays(15, "@[]"));
        faults(8, Texts.arrays(15, "@{\"type\":\"array\"}"));
    }

    /** "it lies in 16 others": arrays, unions, maps and records, each being one of them. */
    private static void everyKindIsALevel() {
        String[] leaves = {"\"int\"", "\"R0\""};
        for (String leaf : leaves) {
            good(mixed(15, leaf));
            faults(14, mixed(16, "@" + leaf));
        }
    }

    private static String mixed(int levels, String leaf) {
        String type = leaf;
        for (int level = levels - 1; level >= 0; level--) {
            switch (level % 4) {
                case 0: type = Texts.record("\"R" + level + "\"", Texts.field("\"a\"", type)); break;
                case 1: type = Texts.array(type); break;
                case 2: type = "[" + type + "]"; break;
                default: type = Texts.map(type); break;
            }
        }
        return type;
    }

    /** "5 at v unless it has 1 .. 16". */
    private static void branches1to16() {
        String most = "[" + String.join(",", Texts.SIX) + "," + Texts.array("\"int\"") + "," + Texts.map("\"int\"") + ","
            + Kit.times("{\"type\":\"fixed\",\"name\":\"F#\",\"size\":1}", ",", 8) + "]";
        String tooMany = most.substring(0, most.length() - 1) + "," + Texts.enumOf("\"E\"", "[\"a\"]") + "]";
        good("[\"int\"]", Texts.array("[\"int\"]"), most, Texts.array(most), Texts.map(most),
            Texts.record("\"R\"", Texts.field("\"a\"", most)));
        faults(5, "@[]", "@[ ]", Texts.array("@[]"), Texts.map("@[]"), Texts.record("\"R\"", Texts.field("\"a\"", "@[]")));
        faults(5, "@" + tooMany, Texts.array("@" + tooMany), Texts.map("@" + tooMany),
            Texts.record("\"R\"", Texts.field("\"a\"", "@" + tooMany)), "@" + Texts.list(17, "1"), "@" + Texts.list(400, "#"));
        faults(2, Texts.list(16, "1").replaceFirst("1", "@1"));
    }

    /** "6, when it has been, at one that is as one before it": the last branch as the first one. */
    private static void branchesOnce() {
        String[] kinds = {"\"null\"", "\"boolean\"", "\"int\"", "\"long\"", "\"bytes\"", "\"string\"", Texts.array("\"int\""),
            Texts.map("\"int\"")};
        for (int i = 0; i < kinds.length; i++) {
            for (int k = 0; k < kinds.length; k++) {
                if (i == k) {
                    faults(6, "[" + kinds[i] + ",@" + kinds[k] + "]");
                } else {
                    good("[" + kinds[i] + "," + kinds[k] + "]");
                }
            }
        }
        String fifteen = Kit.times("{\"type\":\"fixed\",\"name\":\"F#\",\"size\":1}", ",", 15);
        good("[" + fifteen + ",\"int\"]");
        for (int i = 0; i < 15; i++) {
            faults(6, "[" + fifteen + ",@\"F" + i + "\"]", "[" + fifteen + ",@{\"type\":\"F" + i + "\"}]");
        }
        // As one before it, not as one behind it, nor as one in another union.
        faults(6, "[\"int\",\"null\",@\"int\",\"null\"]");
        good("[\"int\"," + Texts.array("[\"int\"," + Texts.array("\"int\"") + "]") + "]");
        // The branch itself is looked at first.
        faults(3, "[" + Texts.map("\"int\"") + "," + Texts.map("@\"no\"") + "]");
        faults(6, "[" + Texts.map("\"int\"") + ",@" + Texts.map("\"long\"") + ",\"no\"]");
    }

    /** "A NAME is 1 .. 32 of letters, digits and _": of a schema, a field and a symbol. */
    private static void namesOf1to32() {
        for (int n : new int[] {1, 2, 31, 32}) {
            isName("a".repeat(n), true);
            isName("_".repeat(n), true);
            isName(Texts.escaped('Z').repeat(n), true);
        }
        isName("", false);
        isName("a".repeat(33), false);
        isName("a".repeat(64), false);
        isName("a".repeat(32) + "-", false);
        isName(Texts.escaped('a').repeat(33), false);
    }

    private static void isName(String name, boolean isGood) {
        String quoted = Texts.quoted(name);
        String at = isGood ? "" : "@";
        String[] texts = {Texts.fixed(at + quoted, "1"), Texts.enumOf(at + quoted, "[\"a\"]"), Texts.record(at + quoted),
            Texts.record("\"R\"", Texts.field(at + quoted, "\"int\"")), Texts.enumOf("\"E\"", "[" + at + quoted + "]"),
            Texts.enumOf("\"E\"", "[\"b_1\"," + at + quoted + ",\"c_1\"]")};
        for (int i = 0; i < texts.length; i++) {
            if (isGood) {
                KIT.dueGood(texts[i]);
            } else {
                KIT.dueFaultAt(texts[i], i < 4 ? 9 : 11);
            }
        }
    }

    /** Names of 32 are told apart, and known again, to their last letter. */
    private static void longestNamesAreKnownAgain() {
        String name = Texts.quoted("n".repeat(32));
        String[] others = {Texts.quoted("n".repeat(31)), Texts.quoted("n".repeat(31) + "m"), Texts.quoted("m" + "n".repeat(31))};
        good("[" + Texts.array(Texts.fixed(name, "1")) + "," + name + "]", Texts.enumOf("\"E\"", "[" + name + "]", name),
            Texts.record(name, Texts.field("\"a\"", name)), Texts.record(name, Texts.field(name, "{\"type\":" + name + "}")),
            Texts.withDefault(Texts.enumOf("\"E\"", "[" + name + "]"), name),
            Texts.withDefault(Texts.record("\"S\"", Texts.field(name, "\"int\"")), "{" + name + ":1}"));
        faults(9, "[" + Texts.fixed(name, "1") + "," + Texts.fixed("@" + name, "1") + "]",
            Texts.record("\"R\"", Texts.field(name, "\"int\""), Texts.field("@" + name, "\"int\"")));
        faults(6, "[" + Texts.fixed(name, "1") + ",@" + name + "]");
        faults(11, Texts.enumOf("\"E\"", "[" + name + ",@" + name + "]"));
        for (String other : others) {
            good("[" + Texts.fixed(name, "1") + "," + Texts.fixed(other, "1") + "]", Texts.enumOf("\"E\"", "[" + name + "," + other + "]"),
                Texts.record("\"R\"", Texts.field(name, "\"int\""), Texts.field(other, "\"int\"")));
            faults(3, "[" + Texts.fixed(name, "1") + ",@" + other + "]", "[" + Texts.fixed(other, "1") + ",@" + name + "]");
            faults(12, Texts.enumOf("\"E\"", "[" + name + "]", "@" + other), Texts.enumOf("\"E\"", "[" + other + "]", "@" + name),
                Texts.withDefault(Texts.record("\"S\"", Texts.field(name, "\"int\"")), "@{" + other + ":1}"));
        }
        faults(3, "[" + Texts.fixed(name, "1") + ",@" + Texts.quoted("n".repeat(33)) + "]");
        faults(12, Texts.enumOf("\"E\"", "[" + name + "]", "@" + Texts.quoted("n".repeat(33))));
    }

    /** "letters, digits and _, no digit first": every byte as the first, and as the last one. */
    private static void namesLetters() {
        for (int b = 0; b < 256; b++) {
            boolean isDigit = b >= '0' && b <= '9';
            boolean isOther = b >= 'a' && b <= 'z' || b >= 'A' && b <= 'Z' || b == '_';
            isName(Texts.escaped(b), isOther);
            isName(Texts.escaped(b) + "d", isOther);
            isName("d" + Texts.escaped(b), isOther || isDigit);
        }
    }

    /** "9 at that if it is no name, or one of the six words, array, map, fixed, enum, record, or defined already". */
    private static void namesTaken() {
        for (String name : TAKEN) {
            String quoted = Texts.quoted(name);
            faults(9, Texts.fixed("@" + quoted, "1"), Texts.enumOf("@" + quoted, "[\"a\"]"), Texts.record("@" + quoted));
            // Those are taken for schemas alone.
            good(Texts.record("\"R\"", Texts.field(quoted, "\"int\"")), Texts.enumOf("\"E\"", "[" + quoted + "]"));
            for (String near : new String[] {name + "_", name.substring(1), name.toUpperCase()}) {
                good(Texts.fixed(Texts.quoted(near), "1"), Texts.record(Texts.quoted(near)));
            }
        }
        good(Texts.fixed("\"union\"", "1"), Texts.fixed("\"type\"", "1"), Texts.fixed("\"name\"", "1"));
        String[] definitions = {Texts.fixed("@\"A\"", "1"), Texts.enumOf("@\"A\"", "[\"a\"]"), Texts.record("@\"A\"")};
        for (String first : definitions) {
            for (String second : definitions) {
                faults(9, "[" + first.replace("@", "") + "," + second + "]");
                good("[" + first.replace("@", "") + "," + second.replace("@\"A\"", "\"B\"") + "]");
                good("[" + first.replace("@", "") + "," + second.replace("@\"A\"", "\"a\"") + "]");
            }
        }
    }

    /** "It is defined from here on." */
    private static void namesDefinedFromHereOn() {
        faults(3, "[@\"A\"," + Texts.fixed("\"A\"", "1") + "]", "[{\"type\":@\"A\"}]",
            Texts.record("\"R\"", Texts.field("\"a\"", "@\"S\""), Texts.field("\"b\"", Texts.record("\"S\""))));
        good(Texts.record("\"R\"", Texts.field("\"a\"", "\"R\"")),
            Texts.record("\"R\"", Texts.field("\"a\"", Texts.record("\"S\"", Texts.field("\"a\"", "[\"R\",\"S\"]")))),
            Texts.record("\"R\"", Texts.field("\"a\"", Texts.record("\"S\"")), Texts.field("\"b\"", "\"S\"")),
            "[" + Texts.array(Texts.map(Texts.fixed("\"A\"", "1"))) + ",\"A\"]");
        faults(9, Texts.record("\"R\"", Texts.field("\"a\"", Texts.record("@\"R\""))));
        // Known to the end of the text, also behind what it was defined in.
        for (String definition : new String[] {Texts.fixed("\"A\"", "1"), Texts.enumOf("\"A\"", "[\"a\"]"), Texts.record("\"A\"")}) {
            String within = Texts.record("\"R\"", Texts.field("\"a\"", Texts.record("\"S\"", Texts.field("\"b\"", Texts.map(definition)))),
                Texts.field("\"c\"", "\"A\""));
            good("[" + within + ",\"A\",{\"type\":\"S\"}]", "[" + within + "," + Texts.array("{\"type\":\"A\"}") + "]");
            faults(9, "[" + within + "," + Texts.fixed("@\"A\"", "1") + "]", "[" + within + "," + Texts.record("@\"S\"") + "]");
            faults(6, "[" + within + ",\"A\",@{\"type\":\"A\"}]");
        }
        // The names of fields and symbols define nothing.
        String names = Texts.record("\"R\"", Texts.field("\"A\"", Texts.enumOf("\"E\"", "[\"B\"]")));
        good("[" + names + "," + Texts.fixed("\"A\"", "1") + "," + Texts.record("\"B\"") + "]",
            Texts.record("\"R\"", Texts.field("\"A\"", "\"int\""), Texts.field("\"b\"", Texts.fixed("\"A\"", "1"))),
            Texts.record("\"R\"", Texts.field("\"A\"", Texts.fixed("\"A\"", "1"))), Texts.enumOf("\"E\"", "[\"E\"]"));
        faults(3, "[" + names + ",@\"A\"]", "[" + names + ",@\"B\"]", "[" + names + ",{\"type\":@\"B\"}]");
        // In the text and not behind it: what one text defines, the next one does not know.
        SchemaReader x = new SchemaReader();
        KIT.dueFault(x, Texts.fixed("\"A\"", "1"), 0, SchemaReader.NONE);
        KIT.dueFault(x, "\"A\"", 3, 0);
        KIT.dueFault(x, Texts.fixed("\"A\"", "2"), 0, SchemaReader.NONE);
        x.keep(0);
        KIT.dueFault(x, "[\"A\"]", 3, 1);
        // Nor is a piece of the next one's plain form a name where the first one's plain form had one.
        KIT.dueFault(x, "[" + Texts.fixed("\"A\"", "1") + "]", 0, SchemaReader.NONE);
        String next = "[\"long\"," + Texts.record("\"E\"", Texts.field("\"a\"", "@\"name\"")) + "]";
        KIT.dueFault(x, next.replace("@", ""), 3, next.indexOf('@'));
    }

    /** "10 at it unless it is a number 0 .. 64". */
    private static void sizes0to64() {
        for (int size = 0; size <= 64; size++) {
            KIT.duePlain(Texts.fixed("\"F\"", "" + size), "{\"name\":\"F\",\"type\":\"fixed\",\"size\":" + size + "}");
        }
        for (String size : new String[] {"-1", "65", "66", "100", "128", "256", "320", "-64", "2147483647", "2147483648",
            "4294967295", "4294967296", "4294967297", "-4294967296", "9223372036854775807", "-9223372036854775808", "\"\"",
            "\"4\"", "true", "false", "null", "[]", "[4]", "{}"}) {
            faults(10, Texts.fixed("\"F\"", "@" + size));
        }
        faults(8, "@{\"type\":\"fixed\",\"name\":\"F\"}");
    }

    /** "11 at it unless it is a list of 1 .. 32". */
    private static void symbols1to32() {
        good(Texts.enumOf("\"E\"", Texts.list(1, "\"s#\"")), Texts.enumOf("\"E\"", Texts.list(31, "\"s#\"")),
            Texts.enumOf("\"E\"", Texts.list(32, "\"s#\"")));
        faults(11, Texts.enumOf("\"E\"", "@[]"), Texts.enumOf("\"E\"", "@" + Texts.list(33, "\"s#\"")),
            Texts.enumOf("\"E\"", "@" + Texts.list(34, "#")), Texts.enumOf("\"E\"", "@{\"a\":\"a\"}"), Texts.enumOf("\"E\"", "@{}"),
            Texts.enumOf("\"E\"", "@\"a\""), Texts.enumOf("\"E\"", "@\"\""), Texts.enumOf("\"E\"", "@1"),
            Texts.enumOf("\"E\"", "@null"), Texts.enumOf("\"E\"", "@true"));
    }

    /** "11 at the first in it that is no string, no name, or there before it". */
    private static void symbolsOnce() {
        String most = Kit.times("\"s#\"", ",", 31);
        for (int i = 0; i < 31; i++) {
            faults(11, Texts.enumOf("\"E\"", "[" + most + ",@\"s" + i + "\"]"));
        }
        for (String bad : new String[] {"1", "null", "true", "[]", "[\"a\"]", "{}", "\"\"", "\"1\""}) {
            faults(11, Texts.enumOf("\"E\"", "[@" + bad + "]"), Texts.enumOf("\"E\"", "[" + most + ",@" + bad + "]"));
        }
        faults(11, Texts.enumOf("\"E\"", "[\"a\",@1,\"a\"]"), Texts.enumOf("\"E\"", "[\"a\",@\"a\",1]"));
        // Behind and before count, letters and their escapes are the same, a part is not the whole.
        good(Texts.enumOf("\"E\"", "[\"a\",\"A\",\"aa\",\"a_\",\"_a\",\"E\"]"));
    }

    /** "a member \"default\": 12 at it unless it is a string that is one of them": the first and the last one. */
    private static void enumsDefault() {
        String most = Texts.list(32, "\"s#\"");
        good(Texts.enumOf("\"E\"", most, "\"s0\""), Texts.enumOf("\"E\"", most, "\"s31\""), Texts.enumOf("\"E\"", most));
        faults(12, Texts.enumOf("\"E\"", most, "@\"s32\""), Texts.enumOf("\"E\"", most, "@\"s\""),
            Texts.enumOf("\"E\"", most, "@\"\""), Texts.enumOf("\"E\"", most, "@null"), Texts.enumOf("\"E\"", most, "@0"),
            Texts.enumOf("\"E\"", most, "@[\"s0\"]"));
    }

    /** "11 at it unless it is a list of 32 at most". */
    private static void fields0to32() {
        String part = "{\"name\":\"f#\",\"type\":\"int\"}";
        good(Texts.record("\"R\""), Texts.record("\"R\"", Kit.times(part, ",", 1)), Texts.record("\"R\"", Kit.times(part, ",", 31)),
            Texts.record("\"R\"", Kit.times(part, ",", 32)));
        String head = "{\"type\":\"record\",\"name\":\"R\",\"fields\":";
        faults(11, head + "@" + Texts.list(33, part) + "}", head + "@" + Texts.list(33, "1") + "}", head + "@{}}",
            head + "@{\"name\":\"a\",\"type\":\"int\"}}", head + "@\"\"}", head + "@0}", head + "@null}", head + "@false}");
        faults(11, head + "[@1" + ",1".repeat(31) + "]}");
        String most = Kit.times(part, ",", 31);
        for (String bad : new String[] {"1", "null", "\"int\"", "[]"}) {
            faults(11, head + "[" + most + ",@" + bad + "]}");
        }
    }

    /** "9 at that if it is no name, or that of a field before it". */
    private static void fieldsOnce() {
        String most = Kit.times("{\"name\":\"f#\",\"type\":\"int\"}", ",", 31);
        for (int i = 0; i < 31; i++) {
            faults(9, Texts.record("\"R\"", most, Texts.field("@\"f" + i + "\"", "\"int\"")));
        }
        good(Texts.record("\"R\"", most, Texts.field("\"f\"", "\"int\"")), Texts.record("\"R\"", most, Texts.field("\"F0\"", "\"int\"")),
            Texts.record("\"R\"", most, Texts.field("\"f31\"", "\"int\"")));
        // A field of another record is none before it, be it around or within.
        good(Texts.record("\"R\"", Texts.field("\"a\"", Texts.record("\"S\"", Texts.field("\"a\"", "\"int\""),
            Texts.field("\"b\"", "\"int\""))), Texts.field("\"b\"", "\"int\"")));
        faults(9, Texts.record("\"R\"", Texts.field("\"a\"", Texts.record("\"S\"", Texts.field("\"b\"", "\"int\""))),
            Texts.field("@\"a\"", "\"int\"")));
    }

    /** "8 at v unless there is a member ..": each kind with all it needs, and with each of them left out. */
    private static void membersThatLack() {
        String[][] kinds = {
            {"\"type\":\"array\"", "\"items\":\"int\""},
            {"\"type\":\"map\"", "\"values\":\"int\""},
            {"\"type\":\"fixed\"", "\"name\":\"A\"", "\"size\":1"},
            {"\"type\":\"enum\"", "\"name\":\"A\"", "\"symbols\":[\"a\"]"},
            {"\"type\":\"record\"", "\"name\":\"A\"", "\"fields\":[]"},
        };
        for (String[] kind : kinds) {
            good("{" + String.join(",", kind) + "}");
            for (int i = 0; i < kind.length; i++) {
                String[] without = kind.clone();
                without[i] = "\"other\":null";
                faults(i == 0 ? 7 : 8, " @{" + String.join(",", without) + "}", "[\"int\", @{" + String.join(",", without) + "}]");
            }
        }
        String head = "{\"type\":\"record\",\"name\":\"R\",\"fields\":[";
        good(head + "{\"name\":\"a\",\"type\":\"int\"}]}");
        faults(8, head + "@{\"type\":\"int\"}]}", head + "@{\"name\":\"a\"}]}", head + "@{}]}", head + "@{\"name\":null,\"type\":\"int\"}]}",
            head + "@{\"Name\":\"a\",\"type\":\"int\"}]}", head + "{\"name\":\"a\",\"type\":\"int\"}, @{\"name\":\"b\"}]}");
        for (String none : new String[] {"1", "null", "true", "[]", "[\"a\"]", "{}", "{\"name\":\"a\"}"}) {
            // A name that is there but is no string lacks; a type that is no string is no type.
            faults(8, "@" + Texts.fixed(none, "1"), "@" + Texts.enumOf(none, "[\"a\"]"), "@" + Texts.record(none));
            faults(8, head + "@" + Texts.field(none, "\"int\"") + "]}");
            faults(7, "@{\"type\":" + none + ",\"name\":\"A\",\"size\":1}");
        }
    }

    /** "The schema of a value v, looked at in this order": of two faults of one value the earlier one is told. */
    private static void earlierFaultIsTold() {
        // 13 before 14 before all else
        faults(13, Texts.record("\"R\"", Kit.times(UNION_OF_3, ",", 28), Texts.field("\"z\"", Texts.arrays(15, "@4"))));
        faults(14, Texts.record("\"R\"", Kit.times(UNION_OF_3, ",", 27), Texts.field("\"z\"", Texts.arrays(15, "@4"))));
        faults(13, behind(128, "@1"), behind(128, "@\"no\""), behind(128, "@[]"), behind(128, "@{}"), behind(126, "[\"int\",@[]]"));
        faults(14, Texts.arrays(15, "[@[]]"));
        // a union in a union before its count, the count before the branches
        faults(4, "[@[]]", "[@" + Texts.list(17, "1") + "]");
        faults(5, "@" + Texts.list(17, "[]"));
        // no type before what lacks, the name before what else lacks, a bad name before what else lacks
        faults(7, "@{\"name\":1}");
        faults(8, "@{\"type\":\"fixed\",\"size\":99}", "@{\"type\":\"enum\",\"symbols\":[]}", "@{\"type\":\"record\",\"fields\":1}");
        faults(9, "{\"type\":\"fixed\",\"name\":@\"\"}", "{\"type\":\"enum\",\"name\":@\"int\"}", "{\"type\":\"record\",\"name\":@\"1\"}",
            Texts.fixed("@\"1\"", "99"), Texts.enumOf("@\"1\"", "[]"), "{\"fields\":1,\"type\":\"record\",\"name\":@\"1\"}");
        // the list before what is in it, that before the default
        faults(11, Texts.enumOf("\"E\"", "@" + Texts.list(33, "1"), "1"), Texts.enumOf("\"E\"", "[\"a\",@\"a\"]", "\"b\""));
        // a field: its name before its type, a bad name before a type that lacks, that before its default
        faults(8, Texts.record("\"R\"", "@{\"type\":1}"));
        faults(9, Texts.record("\"R\"", "{\"name\":@\"\"}"), Texts.record("\"R\"", Texts.field("@\"\"", "1")));
        faults(2, Texts.record("\"R\"", Texts.field("\"a\"", "@1", "1")));
    }

    /** "the first FAULT ends all": of two values the one that is looked at first tells its own. */
    private static void firstFaultEndsAll() {
        faults(2, "[@1,\"no\",[]]", "[@true,1]");
        faults(3, "[@\"no\",1]", Texts.record("\"R\"", Texts.field("\"a\"", "@\"no\""), "1"));
        faults(11, Texts.record("\"R\"", "@1", Texts.field("\"a\"", "\"no\"")));
        faults(10, "[" + Texts.fixed("\"F\"", "@65") + ",1]");
        faults(12, "[" + Texts.enumOf("\"E\"", "[\"a\"]", "@\"b\"") + ",1]");
        // The order is that of the fields and branches, not that of the members of an object.
        faults(9, "{\"fields\":[1],\"name\":@\"9\",\"type\":\"record\"}");
        faults(3, "{\"default\":\"x\",\"type\":\"record\",\"fields\":[{\"default\":\"x\",\"type\":@\"no\",\"name\":\"a\"}],\"name\":\"R\"}");
        // The defaults of fields come behind all schemas.
        faults(2, "[" + Texts.withDefault("\"int\"", "\"x\"") + ",@1]");
        faults(6, "[" + Texts.withDefault("\"int\"", "\"x\"") + ",@\"R\"]");
        faults(12, "[" + Texts.withDefault("\"int\"", "@\"x\"") + ",\"null\"]");
    }
}
