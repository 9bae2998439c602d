/** Promises 6 and 7: the plain form, its size and its letters. */
final class PlainFormTest {
    private static final Kit KIT = new Kit("PlainFormTest");

    public static void main(String[] args) {
        words();
        parts();
        named();
        namesThatStoodBefore();
        letters();
        longest();
        KIT.end();
    }

    private static void words() {
        for (String word : new String[] {"null", "boolean", "int", "long", "bytes", "string"}) {
            String quoted = "\"" + word + "\"";
            KIT.duePlain(quoted, quoted);
            KIT.duePlain(" {\"doc\" : \"x\", \"type\" : " + quoted + " } ", quoted);
        }
        KIT.duePlain("\"\\u0069\\u006E\\u0074\"", "\"int\"");
    }

    private static void parts() {
        KIT.duePlain("{ \"items\" : \"int\" , \"type\" : \"array\" }", "{\"type\":\"array\",\"items\":\"int\"}");
        KIT.duePlain("{\"values\":{\"type\":\"long\"},\"x\":[],\"type\":\"map\"}", "{\"type\":\"map\",\"values\":\"long\"}");
        KIT.duePlain(" [ \"null\" ,\t{\"type\":\"int\"}\n]", "[\"null\",\"int\"]");
        KIT.duePlain("[\"string\"]", "[\"string\"]");
        KIT.duePlain("{\"type\":\"array\",\"items\":[\"null\",{\"values\":[\"int\"],\"type\":\"map\"}]}",
            "{\"type\":\"array\",\"items\":[\"null\",{\"type\":\"map\",\"values\":[\"int\"]}]}");
    }

    private static void named() {
        KIT.duePlain("{\"type\":\"fixed\",\"size\":4,\"name\":\"N\"}", "{\"name\":\"N\",\"type\":\"fixed\",\"size\":4}");
        for (int size : new int[] {0, 1, 9, 10, 11, 19, 20, 59, 60, 63, 64}) {
            KIT.duePlain("{\"type\":\"fixed\",\"size\":" + size + ",\"name\":\"N\"}",
                "{\"name\":\"N\",\"type\":\"fixed\",\"size\":" + size + "}");
        }
        KIT.duePlain("{\"type\":\"fixed\",\"size\":-0,\"name\":\"N\"}", "{\"name\":\"N\",\"type\":\"fixed\",\"size\":0}");
        KIT.duePlain("{\"default\":\"B\",\"symbols\":[ \"A\" , \"\\u0042\"],\"type\":\"enum\",\"name\":\"N\"}",
            "{\"name\":\"N\",\"type\":\"enum\",\"symbols\":[\"A\",\"B\"]}");
        KIT.duePlain("{\"type\":\"enum\",\"name\":\"N\",\"symbols\":[\"A\"]}",
            "{\"name\":\"N\",\"type\":\"enum\",\"symbols\":[\"A\"]}");
        KIT.duePlain("{\"type\":\"record\",\"name\":\"\\u004e\",\"fields\":[]}",
            "{\"name\":\"N\",\"type\":\"record\",\"fields\":[]}");
        KIT.duePlain("{\"fields\":[{\"type\":\"int\",\"default\":3,\"name\":\"A\"},{\"doc\":1,\"name\":\"B\",\"type\":"
            + "[\"null\",\"N\"]}],\"type\":\"record\",\"name\":\"N\",\"aliases\":[\"M\"]}",
            "{\"name\":\"N\",\"type\":\"record\",\"fields\":[{\"name\":\"A\",\"type\":\"int\"},"
            + "{\"name\":\"B\",\"type\":[\"null\",\"N\"]}]}");
    }

    private static void namesThatStoodBefore() {
        KIT.duePlain("[{\"type\":\"fixed\",\"name\":\"F\",\"size\":1},{\"type\":\"array\",\"items\":{\"type\":\"F\"}},"
            + "{\"type\":\"map\",\"values\":\"F\"}]",
            "[{\"name\":\"F\",\"type\":\"fixed\",\"size\":1},{\"type\":\"array\",\"items\":\"F\"},"
            + "{\"type\":\"map\",\"values\":\"F\"}]");
        KIT.duePlain("{\"type\":\"record\",\"name\":\"R\",\"fields\":[{\"name\":\"a\",\"type\":{\"type\":\"record\","
            + "\"name\":\"S\",\"fields\":[{\"name\":\"a\",\"type\":\"R\"},{\"name\":\"b\",\"type\":{\"type\":\"S\"}}]}},"
            + "{\"name\":\"c\",\"type\":\"\\u0053\"}]}",
            "{\"name\":\"R\",\"type\":\"record\",\"fields\":[{\"name\":\"a\",\"type\":{\"name\":\"S\",\"type\":\"record\","
            + "\"fields\":[{\"name\":\"a\",\"type\":\"R\"},{\"name\":\"b\",\"type\":\"S\"}]}},{\"name\":\"c\",\"type\":\"S\"}]}");
    }

    private static void letters() {
        SchemaReader x = new SchemaReader();
        KIT.dueThrow("letter(0) of none", () -> x.letter(0), IndexOutOfBoundsException.class);
        Kit.put(x, " \"int\" ");
        x.schema();
        KIT.due("letter(0)", x.letter(0), 34);
        KIT.due("letter(1)", x.letter(1), 'i');
        KIT.due("letter(4)", x.letter(4), 34);
        KIT.dueThrow("letter(5)", () -> x.letter(5), IndexOutOfBoundsException.class);
        KIT.dueThrow("letter(-1)", () -> x.letter(-1), IndexOutOfBoundsException.class);
        KIT.dueThrow("letter(least)", () -> x.letter(Integer.MIN_VALUE), IndexOutOfBoundsException.class);
        KIT.dueThrow("letter(most)", () -> x.letter(Integer.MAX_VALUE), IndexOutOfBoundsException.class);
        x.keep(0);
        KIT.due("size() behind keep", x.size(), 0);
        KIT.dueThrow("letter(0) behind keep", () -> x.letter(0), IndexOutOfBoundsException.class);
        // A shorter form behind a longer one ends where it ends.
        Kit.put(x, "{\"type\":\"array\",\"items\":\"int\"}");
        x.schema();
        KIT.due("size()", x.size(), 30);
        Kit.put(x, "\"null\"");
        x.schema();
        KIT.due("plain", Kit.plain(x), "\"null\"");
        KIT.dueThrow("letter(6)", () -> x.letter(6), IndexOutOfBoundsException.class);
    }

    private static void longest() {
        String name = "A".repeat(30);
        String symbols = Kit.times("\"" + name + "#\"", ",", 32);
        String plain = "[" + Kit.times("{\"name\":\"E#\",\"type\":\"enum\",\"symbols\":[@]}", ",", 3).replace("@", symbols);
        String last = ",{\"name\":\"L\",\"type\":\"enum\",\"symbols\":[\"";
        int pad = 4096 - plain.length() - last.length() - 4;
        StringBuilder rest = new StringBuilder(last);
        // Fill up to the tape's end: the plain form then has as many bytes as the text.
        int symbol = 0;
        while (pad > 34) {
            rest.append((char) ('a' + symbol)).append("x".repeat(27)).append("\",\"");
            pad -= 31;
            symbol++;
        }
        rest.append("Y".repeat(pad)).append("\"]}]");
        KIT.due("length", plain.length() + rest.length(), 4096);
        KIT.duePlain(plain + rest, plain + rest);
    }
}
