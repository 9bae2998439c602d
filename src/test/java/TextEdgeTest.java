/**
 * The boundaries of the document's first part: the tape, the empty tape, and FAULT 1. Each method
 * is about the one sentence that its comment quotes: the last case that is allowed, and the first
 * that is not.
 */
final class TextEdgeTest {
    private static final Kit KIT = new Kit("TextEdgeTest");
    private static final int BLANKS = 0x20202020;

    public static void main(String[] args) {
        tapeHas4096();
        tapeIsEmpty();
        highestByteComesFirst();
        cutAtBothEnds();
        blanks();
        stringBytes();
        escapes();
        hexDigits();
        escapedNumbers();
        firstDigits();
        numbersBounds();
        tapeEndsTooEarly();
        whatIsCutOffIsGone();
        bracketsOf24();
        membersOnce();
        membersOnceEachTime();
        firstFaultOfTheTextIsTold();
        KIT.end();
    }

    /** "THE TAPE has at most 4096 bytes"; "IllegalStateException when there would be more than 4096". */
    private static void tapeHas4096() {
        for (int before = 4070; before <= 4080; before++) {
            SchemaReader x = blankTape();
            x.end(before);
            if (before <= 4076) {
                KIT.due("feed behind " + before, x.feed(BLANKS, BLANKS, BLANKS, BLANKS, BLANKS), before + 20);
            } else {
                KIT.dueThrow("feed behind " + before, () -> x.feed(BLANKS, BLANKS, BLANKS, BLANKS, BLANKS),
                    IllegalStateException.class);
            }
            int has = before <= 4076 ? before + 20 : before;
            KIT.due("schema() of " + has + " blanks", x.schema(), 1);
            KIT.due("place() in " + has + " blanks", x.place(), has);
            KIT.dueThrow("end one behind " + has, () -> x.end(has + 1), IllegalArgumentException.class);
            KIT.dueThrow("end at " + has, () -> x.end(has), null);
        }
        SchemaReader full = blankTape();
        full.end(4076);
        full.feed(BLANKS, BLANKS, BLANKS, BLANKS, BLANKS);
        KIT.dueThrow("feed on a full tape", () -> full.feed(0, 0, 0, 0, 0), IllegalStateException.class);
        full.end(0);
        KIT.due("feed when it was cut to nothing", full.feed(0, 0, 0, 0, 0), 20);
        KIT.dueGood(" ".repeat(4091) + "\"int\"");
        KIT.dueGood("\"int\"" + " ".repeat(4091));
        KIT.dueFault(" ".repeat(4095) + "x", 1, 4095);
        KIT.dueFault("\"int\"" + " ".repeat(4090) + "x", 1, 4095);
    }

    private static SchemaReader blankTape() {
        SchemaReader x = new SchemaReader();
        for (int i = 0; i < 204; i++) {
            x.feed(BLANKS, BLANKS, BLANKS, BLANKS, BLANKS);
        }
        return x;
    }

    /** "An empty tape": new, cut to nothing, and full of blanks alone. */
    private static void tapeIsEmpty() {
        SchemaReader x = new SchemaReader();
        KIT.due("schema() of a new object", x.schema(), 1);
        KIT.due("place() of a new object", x.place(), 0);
        KIT.dueThrow("end(0) of a new object", () -> x.end(0), null);
        KIT.dueFault(x, "\"int\"", 0, SchemaReader.NONE);
        KIT.dueFault(x, "", 1, 0);
        KIT.dueFault(x, " ", 1, 1);
        KIT.dueFault(x, "\t\n\r ", 1, 4);
    }

    /** "Twenty bytes come behind the tape, each number's highest one first": each place, with a sign bit. */
    private static void highestByteComesFirst() {
        for (int at = 0; at < 20; at++) {
            for (int b : new int[] {0, 127, 128, 255}) {
                int[] numbers = {BLANKS, BLANKS, BLANKS, BLANKS, BLANKS};
                int shift = 24 - 8 * (at % 4);
                numbers[at / 4] = numbers[at / 4] & ~(255 << shift) | b << shift;
                SchemaReader x = new SchemaReader();
                x.feed(BLANKS, BLANKS, BLANKS, BLANKS, BLANKS);
                KIT.due("feed", x.feed(numbers[0], numbers[1], numbers[2], numbers[3], numbers[4]), 40);
                KIT.due("schema() with byte " + b + " at " + at, x.schema(), 1);
                KIT.due("place() of byte " + b + " at " + at, x.place(), 20 + at);
            }
        }
    }

    /** "IllegalArgumentException when n is below 0, or more than it has." */
    private static void cutAtBothEnds() {
        for (int has : new int[] {0, 1, 19, 20, 21, 40}) {
            SchemaReader x = new SchemaReader();
            x.feed(BLANKS, BLANKS, BLANKS, BLANKS, BLANKS);
            x.feed(BLANKS, BLANKS, BLANKS, BLANKS, BLANKS);
            x.end(has);
            for (int n : new int[] {-1, has + 1, Integer.MIN_VALUE, Integer.MAX_VALUE}) {
                KIT.dueThrow("end(" + n + ") of " + has, () -> x.end(n), IllegalArgumentException.class);
            }
            KIT.dueThrow("end of all " + has, () -> x.end(has), null);
            KIT.due("feed behind " + has, x.feed(BLANKS, BLANKS, BLANKS, BLANKS, BLANKS), has + 20);
            KIT.dueThrow("end(0)", () -> x.end(0), null);
            KIT.dueThrow("end(1) behind end(0)", () -> x.end(1), IllegalArgumentException.class);
        }
    }

    /** "blanks (9 10 13 32) around it and between all of its parts": every byte, before, between and behind. */
    private static void blanks() {
        for (int b = 0; b < 256; b++) {
            boolean isBlank = b == 9 || b == 10 || b == 13 || b == 32;
            String before = (char) b + "\"int\"";
            String behind = "\"int\"" + (char) b;
            if (isBlank) {
                KIT.dueGood(before);
                KIT.dueGood(behind);
                KIT.dueGood("@{@\"type\"@:@\"array\"@,@\"items\"@:@[@\"int\"@,@{@\"type\"@:@\"null\"@}@]@}@"
                    .replace('@', (char) b));
                KIT.dueFault("[" + (char) b + "]", 5, 0);
                KIT.dueFault("{" + (char) b + "}", 7, 0);
            } else {
                KIT.dueFault(behind, 1, 5);
                if ("\"[{-".indexOf(b) < 0 && (b < '0' || b > '9') && "tfn".indexOf(b) < 0) {
                    KIT.dueFault(before, 1, 0);
                }
                if (b != ',') {
                    KIT.dueFault("[\"int\"" + (char) b + "\"null\"]", 1, b == ']' ? 7 : 6);
                }
            }
        }
        // A blank within a word, a number or behind a sign parts what may not be parted.
        KIT.dueFaultAt("tr@ ue", 1);
        KIT.dueFaultAt("[1 @2]", 1);
        KIT.dueFaultAt("[-@ 2]", 1);
    }

    /** "32 .. 126 but \" and \\ stand for themselves": every byte within a string. */
    private static void stringBytes() {
        for (int b = 0; b < 256; b++) {
            String text = "{\"x\":\"a" + (char) b + "n\",\"type\":\"int\"}";
            if (b == '"') {
                KIT.dueFault(text, 1, 8);
            } else if (b < 32 || b > 126) {
                KIT.dueFault(text, 1, 7);
            } else {
                // Behind a \ stands an n here, so the \ is good as well.
                KIT.dueGood(text);
            }
        }
        KIT.dueFault("\"\"", 3, 0);
    }

    /** "\" \\ \/ \b \f \n \r \t for 34 92 47 8 12 10 13 9": every byte behind a \. */
    private static void escapes() {
        String letters = "\"\\/bfnrt";
        int[] bytes = {34, 92, 47, 8, 12, 10, 13, 9};
        for (int b = 0; b < 256; b++) {
            String text = "{\"x\":\"\\" + (char) b + "\",\"type\":\"int\"}";
            if (letters.indexOf(b) >= 0) {
                KIT.dueGood(text);
            } else {
                KIT.dueFault(text, 1, b == 'u' ? 8 : 7);
            }
        }
        for (int i = 0; i < bytes.length; i++) {
            // The two stand for the same byte, so the object has the second one already.
            KIT.dueFaultAt("{\"\\" + letters.charAt(i) + "\":1,@\"" + Texts.escaped(bytes[i]) + "\":1}", 1);
            KIT.dueFault("{\"\\" + letters.charAt(i) + "\":1,\"" + Texts.escaped(bytes[i] + 1) + "\":1}", 7, 0);
        }
    }

    /** "\\u and four of 0-9 a-f A-F": every byte at each of the four, and three of them. */
    private static void hexDigits() {
        for (int at = 0; at < 4; at++) {
            for (int b = 0; b < 256; b++) {
                StringBuilder four = new StringBuilder("0000");
                four.setCharAt(at, (char) b);
                String text = "{\"x\":\"\\u" + four + "\",\"type\":\"int\"}";
                if ("0123456789abcdefABCDEF".indexOf(b) < 0) {
                    KIT.dueFault(text, 1, 8 + at);
                } else if (at < 2 && b != '0') {
                    KIT.dueFault(text, 1, 6);
                } else {
                    KIT.dueGood(text);
                }
            }
        }
        KIT.dueFaultAt("\"\\u000@\"", 1);
        KIT.dueFault("\"\\u00000\"", 3, 0);
    }

    /** "for that number, 255 at most"; "\\u above 255, at its \\". */
    private static void escapedNumbers() {
        KIT.dueGood(Texts.withDefault(Texts.fixed("\"F\"", "1"), "\"\\u0000\""));
        KIT.dueGood(Texts.withDefault(Texts.fixed("\"F\"", "1"), "\"\\u00ff\""));
        KIT.dueGood(Texts.withDefault(Texts.fixed("\"F\"", "1"), "\"\\u00FF\""));
        KIT.dueFaultAt(Texts.withDefault(Texts.fixed("\"F\"", "1"), "\"@\\u0100\""), 1);
        KIT.dueFaultAt(Texts.withDefault(Texts.fixed("\"F\"", "1"), "\"ab@\\u0100\""), 1);
        KIT.dueFaultAt("\"@\\uffff\"", 1);
        KIT.dueFaultAt("\"@\\u1000\"", 1);
        KIT.dueFaultAt("{\"@\\u0100\":1}", 1);
        for (int b = 0; b < 256; b++) {
            // Each number is a byte of its own: 0 and 128 and above are no signs and no ends.
            String first = Texts.escaped(b);
            KIT.dueFaultAt("{\"" + first + "\":1,@\"" + first.toUpperCase().replace("\\U", "\\u") + "\":1}", 1);
            KIT.dueFault("{\"" + first + "\":1,\"" + Texts.escaped(b ^ 128) + "\":1}", 7, 0);
        }
    }

    /** "perhaps -, then 0, or digits the first of which is not 0". */
    private static void firstDigits() {
        String[] good = {"0", "-0", "1", "-1", "9", "-9", "10", "-10", "100", "19", "90"};
        for (String number : good) {
            KIT.dueFault(number, 2, 0);
            KIT.dueGood("{\"x\":[" + number + "],\"type\":\"int\"}");
        }
        for (String number : new String[] {"0@0", "0@1", "0@9", "-0@0", "-0@1", "1@-", "0@-", "-@-", "@+1", "-@+1", "@.1",
            "1@.", "1@e", "-@", "0@x0", "-@a", "@/", "@:", "1@/", "1@:"}) {
            KIT.dueFaultAt(number, 1);
        }
    }

    /** "-2^63 .. 2^63 - 1"; "a number out of its bounds, at its first byte". */
    private static void numbersBounds() {
        for (String number : new String[] {"9223372036854775806", "9223372036854775807", "-9223372036854775807",
            "-9223372036854775808", "999999999999999999", "1000000000000000000", "-1000000000000000000"}) {
            KIT.dueFault(number, 2, 0);
            KIT.dueGood(Texts.withDefault("\"long\"", number));
        }
        for (String number : new String[] {"@9223372036854775808", "@9223372036854775809", "@9223372036854775810",
            "@-9223372036854775809", "@-9223372036854775810", "@9999999999999999999", "@-9999999999999999999",
            "@10000000000000000000", "@-10000000000000000000", "@18446744073709551615", "@18446744073709551616",
            "@18446744073709551617", "@-18446744073709551616", "@92233720368547758070"}) {
            KIT.dueFaultAt(number, 1);
            KIT.dueFaultAt("[1, " + number + " ,x]", 1);
            KIT.dueFaultAt(Texts.withDefault("\"long\"", number), 1);
        }
    }

    /** "the length, if the tape ends too early": every start of a text that has all there is. */
    private static void tapeEndsTooEarly() {
        String text = "{ \"x\" : [ true, false , null, -0, -12, 90, \"\\\"\\\\\\/\\b\\u00fF~\", [ ], { } ],"
            + "\"type\" : \"int\" }";
        KIT.dueGood(text);
        for (int n = 0; n < text.length(); n++) {
            KIT.dueFault(text.substring(0, n), 1, n);
        }
    }

    /** "The tape is cut behind its first n bytes": those behind them are not read, though they were fed. */
    private static void whatIsCutOffIsGone() {
        String[] texts = {"\"int\"", "[\"int\",{\"type\":\"null\",\"x\":[true,false,null,-10,\"\\u00e9\\n\"],\"y\":{}}]",
            "{\"type\":\"fixed\",\"name\":\"F\",\"size\":10}"};
        for (String text : texts) {
            SchemaReader x = new SchemaReader();
            KIT.dueFault(x, text, 0, SchemaReader.NONE);
            for (int n = text.length() - 1; n >= 0; n--) {
                x.end(n);
                KIT.due("schema() of " + text + " cut behind " + n, x.schema(), 1);
                KIT.due("place() of " + text + " cut behind " + n, x.place(), n);
            }
        }
        // What is left is whole, and what was cut off would have gone on or been wrong.
        SchemaReader x = new SchemaReader();
        Kit.put(x, "19223372036854775807");
        x.end(19);
        KIT.due("schema() of a number's first digits", x.schema(), 2);
        Kit.put(x, "\"int\"]");
        x.end(5);
        KIT.due("schema() without the bracket behind it", x.schema(), 0);
    }

    /** "a 25th { or [ within one another". */
    private static void bracketsOf24() {
        for (int lists = 0; lists <= 24; lists++) {
            int objects = 24 - lists;
            String open = "[".repeat(lists) + "{\"a\":".repeat(objects);
            String close = "}".repeat(objects) + "]".repeat(lists);
            int whole = lists == 0 ? 7 : lists == 1 ? 7 : 4;
            KIT.dueFault(open + "1" + close, whole, lists == 0 ? 0 : 1);
            KIT.dueFault(open + "[]" + close, 1, open.length());
            KIT.dueFault(open + "{}" + close, 1, open.length());
        }
        // The 24th may be left and opened again; the 25th is none even if nothing comes behind it.
        KIT.dueFault("[".repeat(23) + "[],{},[],{}" + "]".repeat(23), 4, 1);
        KIT.dueFault("[".repeat(23) + "[],{},[[" + "]".repeat(25), 1, 30);
        KIT.dueFault("[".repeat(25), 1, 24);
        KIT.dueFault("[".repeat(24), 1, 24);
        KIT.dueGood("{\"type\":\"int\",\"x\":" + "[".repeat(23) + "]".repeat(23) + "}");
        KIT.dueFault("{\"type\":\"int\",\"x\":" + "[".repeat(24) + "]".repeat(24) + "}", 1, 18 + 23);
        // Those within a string are none.
        KIT.dueGood("{\"type\":\"int\",\"x\":\"" + "[".repeat(50) + "{".repeat(50) + "\"}");
    }

    /** "a member's string that its object has already, at its \"". */
    private static void membersOnce() {
        KIT.dueFault("{\"\":1}", 7, 0);
        KIT.dueFaultAt("{\"\":1,@\"\":1}", 1);
        KIT.dueFaultAt("{\"a\":1,\"b\":1,@\"b\":1}", 1);
        KIT.dueFaultAt("{\"a\":1,\"b\":1, @\"a\":1}", 1);
        KIT.dueFault("{\"a\":{\"a\":{\"a\":1}}}", 7, 0);
        KIT.dueFaultAt("{\"a\":{\"a\":1},@\"a\":1}", 1);
        KIT.dueFaultAt("{\"b\":{\"a\":1,\"b\":2,@\"a\":3}}", 1);
        KIT.dueFault("[{\"a\":1},{\"a\":1}]", 7, 1);
        KIT.dueFaultAt("{\"type\":\"int\",@\"type\":\"int\"}", 1);
        // As many members as a tape nearly holds, and the last or the first of them a second time.
        String members = Kit.times("\"#\":0", ",", 520);
        KIT.dueFault("{" + members + "}", 7, 0);
        KIT.dueFault("{" + members + ",\"519\":0}", 1, members.length() + 2);
        KIT.dueFault("{" + members + ",\"0\":0}", 1, members.length() + 2);
        // All bytes that there are, and strings that a sum of their bytes might take for the same.
        StringBuilder bytes = new StringBuilder();
        for (int b = 0; b < 256; b++) {
            bytes.append(b == 0 ? "" : ",").append(Texts.quoted(Texts.escaped(b))).append(":0");
        }
        KIT.dueFault("{" + bytes + "}", 7, 0);
        KIT.dueFault("{" + bytes + ",\"\\u00FF\":0}", 1, bytes.length() + 2);
        KIT.dueFault("{" + bytes + ",\"\\u0000\":0}", 1, bytes.length() + 2);
        KIT.dueFault("{\"Aa\":0,\"BB\":0,\"AaAa\":0,\"BBBB\":0,\"AaBB\":0,\"BBAa\":0,\"ab\":0,\"ba\":0,\"c\":0,\"\":0}", 7, 0);
        KIT.dueFaultAt("{\"Aa\":0,\"BB\":0,\"C#\":0,@\"Aa\":0}", 1);
        String long1 = "a".repeat(2000);
        KIT.dueFault("{\"" + long1 + "\":0,\"" + long1 + "b\":0}", 7, 0);
        KIT.dueFault("{\"" + long1 + "\":0,\"" + long1 + "\":0}", 1, 2006);
    }

    /** "The tape (which stays)": however often it is looked at, the members of one time are not those of another. */
    private static void membersOnceEachTime() {
        SchemaReader x = new SchemaReader();
        Kit.put(x, "{" + Kit.times("\"#\":0", ",", 520) + "}");
        for (int i = 0; i < 10; i++) {
            KIT.due("schema() time " + i, x.schema(), 7);
        }
        KIT.dueFault(x, "{\"a\":1,\"b\":1,\"a\":1}", 1, 13);
        KIT.dueFault(x, "{\"a\":1,\"b\":1}", 7, 0);
        // Longer strings stood where the two stand now; what is left of them is no part of these.
        KIT.dueFault(x, "{\"abcdef\":1,\"ghijkl\":1,\"\":1}", 7, 0);
        KIT.dueFault(x, "{\"a\":1,\"a\":1}", 1, 7);
        KIT.dueFault(x, "{\"\":1, \"\":1}", 1, 7);
    }

    /** "the first byte that cannot stand where it does": what comes behind it does not count. */
    private static void firstFaultOfTheTextIsTold() {
        KIT.dueFaultAt("[@x, y]", 1);
        KIT.dueFaultAt("{\"a\":1,@\"a\":x}", 1);
        KIT.dueFaultAt("[\"@\\u0100\", \"\u007f\"]", 1);
        KIT.dueFaultAt("[@9223372036854775808, x", 1);
        // FAULT 1 comes before all others, wherever it stands.
        KIT.dueFaultAt("[[1],{},\"x\"@", 1);
        KIT.dueFaultAt("[[1],{},\"x\"] @,", 1);
        KIT.dueFaultAt(Texts.arrays(20, "\"int\"") + "@}", 1);
        KIT.dueFaultAt("{\"type\":3,\"doc\":@01x}".replace("@01x", "0@1"), 1);
    }
}
