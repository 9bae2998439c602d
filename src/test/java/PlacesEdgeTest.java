/**
 * The boundaries of promises 5 to 11: no latest, the plain form's ends, the places 0 .. 7, nothing
 * kept, and where fits and matches turn. Each method is about the one sentence that its comment
 * quotes.
 */
final class PlacesEdgeTest {
    private static final Kit KIT = new Kit("PlacesEdgeTest");
    private static final int[] NO_PLACES = {-1, 8, -8, 9, 16, 256, Integer.MIN_VALUE, Integer.MAX_VALUE};
    private static final long INT_PRINT = 0x7275d51a3f395c8fL;

    public static void main(String[] args) {
        placeIsNone();
        noLatest();
        lettersOfTheShortest();
        lettersOfTheLongest();
        keepAtEveryPlace();
        keepNowhere();
        keepNothing();
        keepInstead();
        keptStays();
        keptIsTheLatestAlone();
        askAtEveryPlace();
        askNowhere();
        askWhatKeepsNone();
        askedAnewEachTime();
        branchesOfTheWriter();
        branchesOfTheReader();
        sizesOfFixed();
        symbolsOfEnums();
        fieldsOfRecords();
        askedForAlready();
        askedAsDeepAsSchemasLie();
        callsOf512();
        KIT.end();
    }

    /** "NONE if it had none": before any schema(), and with a fault at 0, which is not NONE. */
    private static void placeIsNone() {
        SchemaReader x = new SchemaReader();
        KIT.due("place() of a new object", x.place(), SchemaReader.NONE);
        Kit.put(x, "1");
        KIT.due("place() before schema()", x.place(), SchemaReader.NONE);
        x.schema();
        KIT.due("place() of a fault at 0", x.place(), 0);
        Kit.put(x, "\"int\"");
        KIT.due("place() while the tape is another", x.place(), 0);
        x.schema();
        KIT.due("place() without a fault", x.place(), SchemaReader.NONE);
        x.keep(0);
        KIT.due("place() behind keep", x.place(), SchemaReader.NONE);
        Kit.put(x, " ".repeat(4096));
        x.schema();
        KIT.due("place() at the tape's end", x.place(), 4096);
    }

    /** "0 when there is none"; "IndexOutOfBoundsException when there is none such". */
    private static void noLatest() {
        SchemaReader x = new SchemaReader();
        hasNoLatest("of a new object", x);
        Kit.put(x, "\"int\"");
        hasNoLatest("of a tape that was not looked at", x);
        x.schema();
        KIT.due("size()", x.size(), 5);
        KIT.due("print()", x.print(), INT_PRINT);
        x.keep(7);
        hasNoLatest("behind keep", x);
        x.schema();
        KIT.due("size() when it is looked at again", x.size(), 5);
        Kit.put(x, "\"in\"");
        KIT.due("size() while the tape is another", x.size(), 5);
        KIT.due("print() while the tape is another", x.print(), INT_PRINT);
        x.schema();
        hasNoLatest("behind a fault of a schema", x);
        Kit.put(x, "");
        x.schema();
        hasNoLatest("behind a fault of a text", x);
        // A fault found last of all, when the plain form was there already.
        Kit.put(x, Texts.withDefault("\"int\"", "null"));
        x.schema();
        hasNoLatest("behind a fault of a default", x);
    }

    private static void hasNoLatest(String when, SchemaReader x) {
        KIT.due("size() " + when, x.size(), 0);
        KIT.due("print() " + when, x.print(), 0);
        for (int i : new int[] {-1, 0, 1, 4, 4095, Integer.MIN_VALUE, Integer.MAX_VALUE}) {
            KIT.dueThrow("letter(" + i + ") " + when, () -> x.letter(i), IndexOutOfBoundsException.class);
        }
        KIT.dueThrow("keep(0) " + when, () -> x.keep(0), IllegalStateException.class);
    }

    /** "Byte i of it. IndexOutOfBoundsException when there is none such": of five bytes. */
    private static void lettersOfTheShortest() {
        SchemaReader x = new SchemaReader();
        Kit.put(x, "\"int\"");
        x.schema();
        int[] due = {'"', 'i', 'n', 't', '"'};
        for (int i = 0; i < due.length; i++) {
            KIT.due("letter(" + i + ")", x.letter(i), due[i]);
        }
        for (int i : new int[] {-1, 5, 6, -5, Integer.MIN_VALUE, Integer.MAX_VALUE}) {
            KIT.dueThrow("letter(" + i + ") of five", () -> x.letter(i), IndexOutOfBoundsException.class);
        }
    }

    /** "How many bytes the plain form has": as many as the tape, 4096. */
    private static void lettersOfTheLongest() {
        String text = longest();
        KIT.due("length", text.length(), 4096);
        SchemaReader x = new SchemaReader();
        KIT.dueFault(x, text, 0, SchemaReader.NONE);
        KIT.due("size() of the longest", x.size(), 4096);
        KIT.due("print() of the longest", x.print(), Kit.printOf(text));
        for (int i : new int[] {0, 1, 127, 128, 255, 256, 2047, 2048, 4094, 4095}) {
            KIT.due("letter(" + i + ") of the longest", x.letter(i), text.charAt(i));
        }
        for (int i : new int[] {-1, 4096, 4097, Integer.MAX_VALUE}) {
            KIT.dueThrow("letter(" + i + ") of the longest", () -> x.letter(i), IndexOutOfBoundsException.class);
        }
        KIT.due("keep(0) of the longest", x.keep(0), 1);
        KIT.due("fits(0, 0) of the longest", x.fits(0, 0), true);
        KIT.due("matches(0, 0) of the longest", x.matches(0, 0), true);
    }

    /** A text of 4096 bytes that is its own plain form. */
    private static String longest() {
        String symbols = Kit.times("\"" + "A".repeat(30) + "#\"", ",", 32);
        StringBuilder text = new StringBuilder("[");
        for (int i = 0; i < 3; i++) {
            text.append("{\"name\":\"E").append(i).append("\",\"type\":\"enum\",\"symbols\":[").append(symbols).append("]},");
        }
        text.append("{\"name\":\"E3\",\"type\":\"enum\",\"symbols\":[");
        for (int i = 0; 4096 - text.length() > 70; i++) {
            text.append('"').append("B".repeat(25)).append((char) ('a' + i)).append("\",");
        }
        int left = 4096 - text.length() - "\"\",\"\"]}]".length();
        text.append('"').append("C".repeat(left / 2)).append("\",\"").append("D".repeat(left - left / 2)).append("\"]}]");
        return text.toString();
    }

    /** "how many places keep one": from none to all eight, from both ends. */
    private static void keepAtEveryPlace() {
        for (int turn = 0; turn < 2; turn++) {
            SchemaReader x = new SchemaReader();
            Kit.put(x, "\"int\"");
            for (int i = 0; i < 8; i++) {
                x.schema();
                int place = turn == 0 ? i : 7 - i;
                KIT.due("keep(" + place + ")", x.keep(place), i + 1);
            }
            for (int i = 0; i < 8; i++) {
                x.schema();
                KIT.due("keep(" + i + ") when all are full", x.keep(i), 8);
            }
        }
    }

    /** "IndexOutOfBoundsException when there is no such place", with a latest and without one. */
    private static void keepNowhere() {
        SchemaReader x = new SchemaReader();
        for (int place : NO_PLACES) {
            KIT.dueThrow("keep(" + place + ") of none", () -> x.keep(place), IndexOutOfBoundsException.class);
        }
        Kit.put(x, "\"int\"");
        x.schema();
        for (int place : NO_PLACES) {
            KIT.dueThrow("keep(" + place + ")", () -> x.keep(place), IndexOutOfBoundsException.class);
        }
        KIT.due("keep(7), the first that counts", x.keep(7), 1);
        for (int place : NO_PLACES) {
            KIT.dueThrow("keep(" + place + ") behind keep", () -> x.keep(place), IndexOutOfBoundsException.class);
        }
    }

    /** "IllegalStateException when there is none": at places that keep one and at places that keep none. */
    private static void keepNothing() {
        SchemaReader x = Kit.keeping("\"int\"");
        for (int place = 0; place < 8; place++) {
            int at = place;
            KIT.dueThrow("keep(" + at + ") of none", () -> x.keep(at), IllegalStateException.class);
        }
        KIT.due("fits(0, 0) of what was kept", x.fits(0, 0), true);
        for (int place = 1; place < 8; place++) {
            int at = place;
            KIT.dueThrow("fits(" + at + ", 0)", () -> x.fits(at, 0), IllegalStateException.class);
        }
    }

    /** "kept at a place, instead of what was there (and is the latest no more)". */
    private static void keepInstead() {
        SchemaReader x = Kit.keeping("\"int\"", "\"int\"");
        KIT.due("matches(0, 1)", x.matches(0, 1), true);
        Kit.put(x, "\"null\"");
        x.schema();
        KIT.due("keep(0) of another", x.keep(0), 2);
        KIT.due("matches(0, 1) when 0 keeps another", x.matches(0, 1), false);
        KIT.due("matches(1, 1)", x.matches(1, 1), true);
        KIT.due("size() behind keep", x.size(), 0);
        KIT.dueThrow("keep(1) of the latest no more", () -> x.keep(1), IllegalStateException.class);
        KIT.due("matches(1, 1) behind that", x.matches(1, 1), true);
        KIT.due("schema() of the tape that stayed", x.schema(), 0);
        KIT.due("keep(1)", x.keep(1), 2);
        KIT.due("matches(0, 1) of the same", x.matches(0, 1), true);
    }

    /** What is kept does not hang on the tape, on the latest, on a fault, or on what other places keep. */
    private static void keptStays() {
        String record = Texts.record("\"R\"", Texts.field("\"a\"", Texts.enumOf("\"E\"", "[\"x\",\"y\"]", "\"x\"")));
        SchemaReader x = Kit.keeping(record, record.replace("\"x\",\"y\"", "\"x\",\"z\""));
        for (String text : new String[] {"\"int\"", "", "[1]", Texts.record("\"R\""), Texts.arrays(15, "\"int\"")}) {
            Kit.put(x, text);
            x.schema();
            KIT.due("fits(0, 1) behind " + text, x.fits(0, 1), true);
            KIT.due("fits(1, 0) behind " + text, x.fits(1, 0), true);
            if (x.size() > 0) {
                x.keep(2);
            }
            KIT.due("fits(0, 1) when another is kept", x.fits(0, 1), true);
        }
        KIT.due("fits(2, 0)", x.fits(2, 0), false);
    }

    /** "the LATEST is kept": nothing of what was the latest, or was kept there, before it. */
    private static void keptIsTheLatestAlone() {
        String with = Texts.enumOf("\"E\"", "[\"a\"]", "\"a\"");
        String without = Texts.enumOf("\"E\"", "[\"a\"]");
        SchemaReader x = Kit.keeping(Texts.enumOf("\"E\"", "[\"b\"]"));
        Kit.put(x, with);
        x.schema();
        Kit.keep(x, 1, without);
        KIT.due("fits(0, 1), the default being that of the latest before", x.fits(0, 1), false);
        Kit.keep(x, 1, with);
        KIT.due("fits(0, 1) with a default", x.fits(0, 1), true);
        Kit.keep(x, 1, without);
        Kit.keep(x, 1, without);
        KIT.due("fits(0, 1), the default being that of what was kept there", x.fits(0, 1), false);
        Kit.put(x, Texts.record("\"R\"", Texts.field("\"a\"", "\"int\"", "1")));
        x.schema();
        Kit.keep(x, 2, Texts.record("\"R\"", Texts.field("\"a\"", "\"int\"")));
        Kit.keep(x, 3, Texts.record("\"R\""));
        KIT.due("fits(3, 2), the field's default being that of the latest before", x.fits(3, 2), false);
        KIT.due("fits(2, 3)", x.fits(2, 3), true);
    }

    /** "a place fits what is kept at another one (or the same)": each of the eight with each. */
    private static void askAtEveryPlace() {
        SchemaReader x = Kit.keeping("\"null\"", "\"boolean\"", "\"int\"", "\"long\"", "\"bytes\"", "\"string\"", "[\"null\"]",
            Texts.array("\"null\""));
        for (int w = 0; w < 8; w++) {
            for (int r = 0; r < 8; r++) {
                boolean isSame = w == r || w == 2 && r == 3 || w == 4 && r == 5 || w == 5 && r == 4;
                boolean isUnionsFit = w == 0 && r == 6 || w == 6 && r == 0;
                KIT.due("fits(" + w + ", " + r + ")", x.fits(w, r), isSame || isUnionsFit);
                KIT.due("matches(" + w + ", " + r + ")", x.matches(w, r), isSame || w == 6 || r == 6);
            }
        }
    }

    /** "IndexOutOfBoundsException", first of the two, whichever the place that is none, whatever the other keeps. */
    private static void askNowhere() {
        SchemaReader x = Kit.keeping("\"int\"");
        for (int none : NO_PLACES) {
            for (int other : new int[] {0, 1, 7, -1, 8}) {
                KIT.dueThrow("fits(" + none + ", " + other + ")", () -> x.fits(none, other), IndexOutOfBoundsException.class);
                KIT.dueThrow("fits(" + other + ", " + none + ")", () -> x.fits(other, none), IndexOutOfBoundsException.class);
                KIT.dueThrow("matches(" + none + ", " + other + ")", () -> x.matches(none, other), IndexOutOfBoundsException.class);
                KIT.dueThrow("matches(" + other + ", " + none + ")", () -> x.matches(other, none), IndexOutOfBoundsException.class);
            }
        }
    }

    /** "IllegalStateException when one keeps none": either, or both; the latest is not kept. */
    private static void askWhatKeepsNone() {
        SchemaReader x = Kit.keeping("\"int\"");
        Kit.put(x, "\"int\"");
        x.schema();
        for (int place = 0; place < 8; place++) {
            int at = place;
            Class<? extends RuntimeException> due = at == 0 ? null : IllegalStateException.class;
            KIT.dueThrow("fits(0, " + at + ")", () -> x.fits(0, at), due);
            KIT.dueThrow("fits(" + at + ", 0)", () -> x.fits(at, 0), due);
            KIT.dueThrow("fits(" + at + ", same)", () -> x.fits(at, at), due);
            KIT.dueThrow("matches(0, " + at + ")", () -> x.matches(0, at), due);
            KIT.dueThrow("matches(" + at + ", 0)", () -> x.matches(at, 0), due);
            KIT.dueThrow("matches(" + at + ", same)", () -> x.matches(at, at), due);
        }
        SchemaReader none = new SchemaReader();
        KIT.dueThrow("fits(0, 0) when nothing is kept", () -> none.fits(0, 0), IllegalStateException.class);
        KIT.dueThrow("matches(7, 7) when nothing is kept", () -> none.matches(7, 7), IllegalStateException.class);
    }

    /** "Whether what is kept at a place fits what is kept at another one": all of eight, whatever was asked before. */
    private static void askedAnewEachTime() {
        String[] texts = {Texts.record("\"R\""), Texts.record("\"R\"", Texts.field("\"a\"", "\"int\"")),
            Texts.array(Texts.record("\"S\"", Texts.field("\"r\"", Texts.record("\"R\"", Texts.field("\"a\"", "\"long\""))))),
            "[\"null\"," + Texts.record("\"R\"", Texts.field("\"a\"", "\"long\"", "1"), Texts.field("\"b\"", "\"R\"")) + "]", "\"int\"",
            Texts.record("\"S\"", Texts.field("\"a\"", "[\"null\",\"S\"]"), Texts.field("\"r\"", Texts.record("\"R\""))),
            Texts.map(Texts.fixed("\"R\"", "1")), Texts.enumOf("\"S\"", "[\"a\"]")};
        SchemaReader x = Kit.keeping(texts);
        // 37 is odd, so each of the 64 pairs is asked once, and each behind one that has nothing to do with it.
        for (int i = 0; i < 64; i++) {
            int w = i * 37 % 64 / 8;
            int r = i * 37 % 64 % 8;
            SchemaReader alone = Kit.keeping(texts[w], texts[r]);
            KIT.due("matches(" + w + ", " + r + ")", x.matches(w, r), alone.matches(0, 1));
            KIT.due("fits(" + w + ", " + r + ")", x.fits(w, r), alone.fits(0, 1));
            KIT.due("fits(" + w + ", " + w + ")", x.fits(w, w), true);
        }
    }

    private static void fits(String w, String r, boolean due) {
        KIT.due(w + " fits " + r, Kit.keeping(w, r).fits(0, 1), due);
    }

    private static void matches(String w, String r, boolean due) {
        KIT.due(w + " matches " + r, Kit.keeping(w, r).matches(0, 1), due);
    }

    private static String names(int n, String more) {
        return "[" + Kit.times("{\"type\":\"fixed\",\"name\":\"F#\",\"size\":1}", ",", n) + more + "]";
    }

    /** "w a union: all branches fit r": one of one, and the first or the last of sixteen does not. */
    private static void branchesOfTheWriter() {
        fits("[\"int\"]", "\"int\"", true);
        fits("[\"int\"]", "\"null\"", false);
        fits(names(16, ""), names(16, ""), true);
        fits(names(15, ",\"null\""), names(16, ""), false);
        fits(names(16, "").replace("F0", "G"), names(16, ""), false);
        fits(names(16, ""), names(15, ""), false);
        fits(names(15, ""), names(16, ""), true);
        matches(names(16, ""), "\"int\"", true);
    }

    /** "the first branch that matches w is there, and w fits it": the sixteenth, and none. */
    private static void branchesOfTheReader() {
        fits("\"int\"", names(15, ",\"int\""), true);
        fits("\"int\"", names(15, ",\"long\""), true);
        fits("\"int\"", names(15, ",\"null\""), false);
        fits("\"int\"", "[\"int\"]", true);
        fits("\"int\"", "[\"null\"]", false);
        // The branch that matches does not fit, as an array of a union matches any array.
        String mismatch = Texts.array("[\"null\"]");
        fits(Texts.array("\"int\""), "[\"int\"," + mismatch + "]", false);
        String enumA = Texts.enumOf("\"E\"", "[\"a\"]");
        fits(Texts.enumOf("\"E\"", "[\"b\"]"), "[" + enumA + "]", false);
        fits(Texts.enumOf("\"E\"", "[\"b\"]"), "[" + Texts.enumOf("\"E\"", "[\"a\"]", "\"a\"") + "]", true);
        fits("\"bytes\"", "[\"string\",\"bytes\"]", true);
        matches("\"int\"", names(16, ""), true);
    }

    /** "FIXED of the same name and size": 0 and 64, and one beside them. */
    private static void sizesOfFixed() {
        int[] sizes = {0, 1, 63, 64};
        for (int w : sizes) {
            for (int r : sizes) {
                fits(Texts.fixed("\"F\"", "" + w), Texts.fixed("\"F\"", "" + r), w == r);
                matches(Texts.fixed("\"F\"", "" + w), Texts.fixed("\"F\"", "" + r), w == r);
            }
        }
        String most = "F".repeat(32);
        fits(Texts.fixed(Texts.quoted(most), "1"), Texts.fixed(Texts.quoted(most), "1"), true);
        fits(Texts.fixed(Texts.quoted(most), "1"), Texts.fixed(Texts.quoted("F".repeat(31)), "1"), false);
        matches(Texts.fixed(Texts.quoted(most), "1"), Texts.fixed(Texts.quoted("F".repeat(31) + "G"), "1"), false);
        matches(Texts.fixed("\"F\"", "1"), Texts.fixed("\"FF\"", "1"), false);
    }

    /** "ENUM of the same name, and r has a default, or all symbols of w": all, all but one, none. */
    private static void symbolsOfEnums() {
        String most = Texts.list(32, "\"s#\"");
        String[] without = {most.replace("\"s0\"", "\"t\""), most.replace("\"s31\"", "\"t\"")};
        fits(Texts.enumOf("\"E\"", most), Texts.enumOf("\"E\"", most), true);
        for (String list : without) {
            fits(Texts.enumOf("\"E\"", most), Texts.enumOf("\"E\"", list), false);
            fits(Texts.enumOf("\"E\"", list), Texts.enumOf("\"E\"", most), false);
            fits(Texts.enumOf("\"E\"", most), Texts.enumOf("\"E\"", list, "\"t\""), true);
            fits(Texts.enumOf("\"E\"", most, "\"s5\""), Texts.enumOf("\"E\"", list), false);
            fits(Texts.enumOf("\"E\"", most), Texts.enumOf("\"D\"", list, "\"t\""), false);
            matches(Texts.enumOf("\"E\"", most), Texts.enumOf("\"E\"", list), true);
        }
        fits(Texts.enumOf("\"E\"", "[\"s31\"]"), Texts.enumOf("\"E\"", most), true);
        fits(Texts.enumOf("\"E\"", "[\"a\"]"), Texts.enumOf("\"E\"", "[\"b\"]", "\"b\""), true);
    }

    /** "each of r's fields is one of w's that fits it, or else has a default": none, 32, all but one. */
    private static void fieldsOfRecords() {
        String part = "{\"name\":\"f#\",\"type\":\"int\"}";
        String most = Kit.times(part, ",", 32);
        fits(Texts.record("\"R\""), Texts.record("\"R\""), true);
        fits(Texts.record("\"R\"", most), Texts.record("\"R\""), true);
        fits(Texts.record("\"R\""), Texts.record("\"R\"", most), false);
        fits(Texts.record("\"R\"", most), Texts.record("\"R\"", most), true);
        fits(Texts.record("\"R\"", most), Texts.record("\"S\"", most), false);
        fits(Texts.record("\"R\""), Texts.record("\"R\"", most.replace("\"int\"", "\"int\",\"default\":1")), true);
        for (String name : new String[] {"\"f0\"", "\"f31\""}) {
            String without = most.replace(name, "\"g\"");
            fits(Texts.record("\"R\"", without), Texts.record("\"R\"", most), false);
            fits(Texts.record("\"R\"", most), Texts.record("\"R\"", without), false);
            fits(Texts.record("\"R\"", most), Texts.record("\"R\"", without.replace("\"g\",\"type\":\"int\"",
                "\"g\",\"type\":\"int\",\"default\":1")), true);
            String wider = most.replace(name + ",\"type\":\"int\"", name + ",\"type\":\"long\"");
            fits(Texts.record("\"R\"", most), Texts.record("\"R\"", wider), true);
            fits(Texts.record("\"R\"", wider), Texts.record("\"R\"", most), false);
            matches(Texts.record("\"R\"", wider), Texts.record("\"R\"", most), true);
        }
        fits(Texts.record("\"R\"", most), Texts.record("\"R\"", Texts.field("\"f31\"", "\"int\"")), true);
    }

    /** "Two that are being asked for already count as fitting": to themselves, in a ring, and not in place of a misfit. */
    private static void askedForAlready() {
        String self = Texts.record("\"R\"", Texts.field("\"r\"", "\"R\""));
        fits(self, self, true);
        matches(self, self, true);
        String ring = Texts.record("\"A\"", Texts.field("\"b\"", Texts.record("\"B\"", Texts.field("\"c\"", Texts.record("\"C\"",
            Texts.field("\"a\"", "\"A\""), Texts.field("\"x\"", "\"int\""))))));
        fits(ring, ring, true);
        fits(ring, ring.replace("\"int\"", "\"long\""), true);
        fits(ring.replace("\"int\"", "\"long\""), ring, false);
        // The misfit comes behind the field in which the two are asked for again.
        String list = Texts.record("\"R\"", Texts.field("\"n\"", "[\"null\",\"R\"]"), Texts.field("\"v\"", "\"int\""));
        fits(list, list, true);
        fits(list.replace("\"int\"", "\"string\""), list, false);
        // However often the two are asked for again, what comes late on another way is asked as well.
        String late = Texts.record("\"S\"", Texts.field("\"t\"", Texts.record("\"T\"", Texts.field("\"u\"", Texts.record("\"U\"",
            Texts.field("\"x\"", "\"int\""))))));
        String often = Texts.record("\"R\"", Kit.times("{\"name\":\"f#\",\"type\":\"R\"}", ",", 31), Texts.field("\"s\"", late));
        fits(often, often, true);
        fits(often, often.replace("\"int\"", "\"long\""), true);
        fits(often.replace("\"int\"", "\"long\""), often, false);
    }

    /** "14 it lies in 16 others" bounds the way down that fits and matches have to go: fifteen levels of both. */
    private static void askedAsDeepAsSchemasLie() {
        String[] around = {"[{\"type\":\"array\",\"items\":", "[{\"type\":\"map\",\"values\":"};
        for (String level : around) {
            // Fourteen levels, every other one a union; the fifteenth is a union too.
            String open = level.repeat(7) + "[";
            String close = "]" + "}]".repeat(7);
            fits(open + "\"int\"" + close, open + "\"int\"" + close, true);
            fits(open + "\"int\"" + close, open + "\"long\"" + close, true);
            fits(open + "\"long\"" + close, open + "\"int\"" + close, false);
            matches(open + "\"long\"" + close, open + "\"int\"" + close, true);
            String plainOpen = level.substring(1).repeat(15);
            String plainClose = "}".repeat(15);
            fits(plainOpen + "\"int\"" + plainClose, plainOpen + "\"long\"" + plainClose, true);
            fits(plainOpen + "\"long\"" + plainClose, plainOpen + "\"int\"" + plainClose, false);
            matches(plainOpen + "\"int\"" + plainClose, plainOpen + "\"long\"" + plainClose, true);
            matches(plainOpen + "\"long\"" + plainClose, plainOpen + "\"int\"" + plainClose, false);
            matches(plainOpen + "\"int\"" + plainClose, plainOpen.substring(0, plainOpen.length() * 14 / 15) + "\"int\""
                + plainClose.substring(1), false);
            // A way down within a field of a record, to the deepest level there.
            String inner = "{\"type\":\"record\",\"name\":\"R\",\"fields\":[{\"name\":\"a\",\"type\":" + level.substring(1).repeat(14);
            String innerClose = "}".repeat(14) + "}]}";
            fits(inner + "\"R\"" + innerClose, inner + "\"R\"" + innerClose, true);
            fits(inner + "\"R\"" + innerClose, inner + "\"int\"" + innerClose, false);
        }
    }

    /** "An object is used for at most 512 calls": the last of them answers as the first did. */
    private static void callsOf512() {
        SchemaReader x = new SchemaReader();
        for (int round = 0; round < 46; round++) {
            x.end(0);
            KIT.due("feed in round " + round, x.feed(0x22696e74, 0x22202020, 0x20202020, 0x20202020, 0x20202020), 20);
            x.end(5);
            KIT.due("schema() in round " + round, x.schema(), 0);
            KIT.due("place() in round " + round, x.place(), SchemaReader.NONE);
            KIT.due("size() in round " + round, x.size(), 5);
            KIT.due("letter(4) in round " + round, x.letter(4), '"');
            KIT.due("print() in round " + round, x.print(), INT_PRINT);
            KIT.due("keep in round " + round, x.keep(round % 8), Math.min(round + 1, 8));
            KIT.due("fits in round " + round, x.fits(round % 8, 0), true);
            KIT.due("matches in round " + round, x.matches(0, round % 8), true);
        }
        // 46 rounds of 11 calls are 506; these are the last six.
        KIT.due("schema(), call 507", x.schema(), 0);
        KIT.due("keep(7), call 508", x.keep(7), 8);
        KIT.due("fits(7, 0), call 509", x.fits(7, 0), true);
        KIT.dueThrow("keep(7), call 510", () -> x.keep(7), IllegalStateException.class);
        KIT.due("schema(), call 511", x.schema(), 0);
        KIT.due("print(), call 512", x.print(), INT_PRINT);
    }
}
