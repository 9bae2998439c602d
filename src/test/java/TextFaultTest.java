/** Promises 4 and 5 on texts that are none: FAULT 1 and its place. */
final class TextFaultTest {
    private static final Kit KIT = new Kit("TextFaultTest");

    public static void main(String[] args) {
        bytesThatCannotStand();
        textsThatEndTooEarly();
        strings();
        numbers();
        brackets();
        membersTwice();
        goodTexts();
        longTexts();
        KIT.end();
    }

    private static void bytesThatCannotStand() {
        String[] marked = {
            "@x", "@]", "@}", "@,", "@:", "@'a'", "@+1", "@.5", "@True", "@\u0000", "@\u000b\"int\"", "@\u00a0\"int\"",
            "\"int\"@x", "\"int\" @\"int\"", "\"int\"@,", "[]@]", "{}@}", "1 @2", "t@Rue", "tru@}", "true@x", "fals@x",
            "nul@ ", "null@l", "[@,1]", "[1@ 2]".replace("@ ", " @"), "[1,@]", "[1,@,2]", "[1@}", "[1@:2]", "[@}",
            "{@]", "{@,}", "{@1:2}", "{\"a\"@}", "{\"a\"@,1}", "{\"a\" @\"b\"}", "{\"a\":@}", "{\"a\":@,}",
            "{\"a\":1@]", "{\"a\":1,@}", "{\"a\":1,@2}", "{\"a\":1 @\"b\":2}", "{\"a\"@=1}", "{\"a\":1@:2}",
            "{@null:1}", "\"int\"\t\n\r @\f",
        };
        for (String text : marked) {
            KIT.dueFaultAt(text, 1);
        }
    }

    private static void textsThatEndTooEarly() {
        String[] texts = {
            "", " ", "\t\n\r ", "{", "{ ", "{\"", "{\"a", "{\"a\"", "{\"a\":", "{\"a\":1", "{\"a\":1,", "[", "[1", "[1,",
            "[1 , ", "\"", "\"a", "\"\\", "\"\\u", "\"\\u0", "\"\\u00", "\"\\u00f", "\"\\u00ff", "-", "t", "tr", "tru",
            "f", "fals", "n", "nul", "[[]", "[{}", "{\"a\":{}",
        };
        for (String text : texts) {
            KIT.dueFault(text, 1, text.length());
        }
    }

    private static void strings() {
        String[] marked = {
            "\"@\u001f\"", "\"@\n\"", "\"@\u007f\"", "\"@\u0080\"", "\"@\u00ff\"", "\"a@\u0000\"", "\"\\@x\"", "\"\\@'\"",
            "\"\\@0\"", "\"\\@U0041\"", "\"\\@\u0000\"", "\"\\u@\"", "\"\\u0@g00\"", "\"\\u00@/0\"", "\"\\u000@:\"",
            "\"\\u000@`\"", "\"\\u000@@\"".replace("@@", "@G"), "\"@\\u0100\"", "\"@\\uffff\"", "\"ab@\\u1000cd\"",
            "\"@\\uFFFFx", "\"\\u1@x00\"", "[\"\\u00fF\",\"@\\u0100\"]", "\"\\u00@\\u\"", "\"\\\"@",
        };
        for (String text : marked) {
            KIT.dueFaultAt(text, 1);
        }
    }

    private static void numbers() {
        String[] marked = {
            "0@1", "-0@1", "0@0", "-@-1", "-@a", "-@ 1", "1@.5", "1@e5", "1@E5", "0@x1", "12@a", "[-@]",
            "@9223372036854775808", "@-9223372036854775809", "[1,@9223372036854775808]", "@10000000000000000000",
            "@-10000000000000000000", "@99999999999999999999999999999999999999999", "[@9223372036854775810",
            "@9300000000000000000x", "@18446744073709551616", "@-18446744073709551617",
        };
        for (String text : marked) {
            KIT.dueFaultAt(text, 1);
        }
        String[] good = {"0", "-0", "7", "-7", "10", "9223372036854775807", "-9223372036854775808", " 12 ",
            "1000000000000000000", "-1000000000000000000"};
        for (String text : good) {
            KIT.dueFault(text, 2, text.startsWith(" ") ? 1 : 0);
        }
    }

    private static void brackets() {
        KIT.dueFault("1", 2, 0);
        KIT.dueFault("[".repeat(24) + "]".repeat(24), 4, 1);
        KIT.dueFault("[".repeat(25) + "]".repeat(25), 1, 24);
        KIT.dueFault("[".repeat(25), 1, 24);
        KIT.dueFault("[".repeat(24), 1, 24);
        KIT.dueFault("[".repeat(4096), 1, 24);
        KIT.dueFault("[".repeat(24) + "{", 1, 24);
        KIT.dueFault("{\"a\":".repeat(24) + "1" + "}".repeat(24), 7, 0);
        KIT.dueFault("{\"a\":".repeat(24) + "{}" + "}".repeat(24), 1, 24 * 5);
        KIT.dueFault("{\"a\":".repeat(24) + "[]" + "}".repeat(24), 1, 24 * 5);
        // Brackets side by side are not within one another.
        KIT.dueFault("[" + Kit.times("[[[]]]", ",", 30) + "]", 5, 0);
    }

    private static void membersTwice() {
        String[] marked = {
            "{\"a\":1,@\"a\":2}", "{\"a\":1,\"b\":2,@\"a\":3}", "{\"a\":1, @\"a\" x", "{\"a\":1,@\"\\u0061\":2}",
            "{\"\\u0061\":1,\"b\":{\"a\":1,\"c\":2},@\"a\":2}", "{\"\":1,@\"\":1}", "[{\"x\":1},{\"x\":1,@\"x\":2}]",
            "{\"a\":{\"b\":1,@\"b\":1}}", "{\"\\/\":1,@\"/\":1}", "{\"\\\\\":1,@\"\\u005C\":1}",
            "{\"\\b\\f\\n\\r\\t\":1,@\"\\u0008\\u000c\\u000A\\u000d\\u0009\":1}", "{\"\\u00e9\":1,@\"\\u00E9\":1}",
        };
        for (String text : marked) {
            KIT.dueFaultAt(text, 1);
        }
        KIT.dueFaultAt("{\"a\":1,\"a@", 1);
        KIT.dueFault("{\"a\":1,\"A\":1,\"aa\":1,\"\":1,\"a\\u0000\":1,\"b\":{\"a\":1}}", 7, 0);
        String many = Kit.times("\"k#\":0", ",", 450);
        KIT.dueFault("{" + many + "}", 7, 0);
        KIT.dueFault("{" + many + ",\"k7\":0}", 1, many.length() + 2);
    }

    private static void goodTexts() {
        String[] texts = {"\"int\"", " \t\n\r\"int\"\r\n\t ", "\"\\u0069nt\"", "\"\\u006E\\u0075ll\"",
            " { \"type\" : \"int\" } ", "\n[\n\"int\"\r,\t\"null\" ]\n", "{\"x\":[ ],\"y\":{ },\"type\":\"int\"}",
            "{\"x\":[true , false,null,-1,\" !#[]^~\\\"\\\\\\/\\b\\f\\n\\r\\t\\u00fF\"],\"type\":\"int\"}"};
        for (String text : texts) {
            KIT.dueGood(text);
        }
        KIT.dueFault("true", 2, 0);
        KIT.dueFault(" false ", 2, 1);
        KIT.dueFault("null", 2, 0);
    }

    private static void longTexts() {
        KIT.dueFault("[" + Kit.times("1", ",", 2047) + "]", 5, 0);
        KIT.dueFault("[" + Kit.times("1", ",", 2048), 1, 4096);
        KIT.dueFault("[".repeat(24) + Kit.times("1", ",", 2036), 1, 4095);
        KIT.dueFault(" ".repeat(4096), 1, 4096);
        KIT.dueFault("\"" + "a".repeat(4094) + "\"", 3, 0);
        KIT.dueFault("\"" + "a".repeat(4095), 1, 4096);
        KIT.dueFault("9".repeat(4096), 1, 0);
        KIT.dueFault("[" + Kit.times("{\"\":0}", ",", 585), 1, 4095);
        KIT.dueFault("[" + Kit.times("{}", ",", 1365), 1, 4095);
        KIT.dueFault(" ".repeat(4091) + "\"int\"", 0, -1);
    }
}
