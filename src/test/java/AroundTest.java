import java.util.ArrayList;
import java.util.List;

/**
 * What the document says of a schema, it says of it wherever it stands: each kind's defaults, fits
 * and matches are asked in a list, a map, a union and a record, in two of these within one
 * another, and by a name that stood before.
 */
final class AroundTest {
    private static final Kit KIT = new Kit("AroundTest");
    private static final int WAYS = 6;
    private static final String FIXED = Texts.fixed("\"N\"", "2");
    private static final String ENUM = Texts.enumOf("\"N\"", "[\"a\",\"b\"]");
    private static final String RECORD = Texts.record("\"N\"", Texts.field("\"x\"", "\"int\""), Texts.field("\"y\"", "\"string\""));

    public static void main(String[] args) {
        defaults("\"null\"", new String[] {"null"}, "@true", "@0", "@\"null\"");
        defaults("\"boolean\"", new String[] {"true", "false"}, "@null", "@1", "@\"true\"");
        defaults("\"int\"", new String[] {"-2147483648", "2147483647"}, "@2147483648", "@null", "@\"1\"");
        defaults("\"long\"", new String[] {"-9223372036854775808"}, "@false", "@\"1\"", "@[1]");
        defaults("\"bytes\"", new String[] {"\"\"", "\"\\u00ff\""}, "@null", "@1", "@[\"\"]");
        defaults("\"string\"", new String[] {"\"\"", "\"\\u00ff\""}, "@true", "@{}", "@0");
        defaults(FIXED, new String[] {"\"ab\"", "\"\\n\\u0000\""}, "@\"a\"", "@\"abc\"", "@null");
        defaults(ENUM, new String[] {"\"a\"", "\"b\""}, "@\"c\"", "@\"ab\"", "@\"\"", "@0");
        defaults(Texts.array("\"int\""), new String[] {"[]", "[1,2]"}, "[1,@null]", "@{}", "@1");
        defaults(Texts.map("\"int\""), new String[] {"{}", "{\"x\":1}"}, "{\"z\":1,\"x\":@null}", "@[]", "@\"x\"");
        defaults(RECORD, new String[] {"{\"y\":\"\",\"x\":1}"}, "{\"y\":\"\",\"x\":@\"\"}", "@{\"x\":1}", "{\"y\":@1,\"x\":1}", "@[]");
        sixWords();
        named();
        KIT.end();
    }

    /** A type and a value of it; the value has an @ where it does not fit, or none. */
    private record Case(String type, String value, String good) {
    }

    /** The type in one of the ways; the bad value comes behind a good one where there is room for two. */
    private static Case in(int way, Case inner, int number) {
        String type = inner.type();
        String value = inner.value();
        String good = inner.good();
        switch (way) {
            case 0: return inner;
            case 1: return new Case(Texts.array(type), "[" + good + "," + value + "]", "[" + good + "]");
            case 2: return new Case(Texts.map(type), "{\"z\":" + good + ",\"a\":" + value + "}", "{\"\":" + good + "}");
            case 3: return new Case("[" + type + "]", value, good);
            case 4: return new Case("[" + type + "," + Texts.fixed("\"U" + number + "\"", "3") + "]", value, good);
            default: return new Case(Texts.record("\"W" + number + "\"", Texts.field("\"u\"", "\"int\""), Texts.field("\"v\"", type)),
                "{\"v\":" + value + ",\"u\":1}", "{\"u\":1,\"v\":" + good + "}");
        }
    }

    private static boolean isUnion(String type) {
        return type.startsWith("[");
    }

    private static void defaults(String type, String[] good, String... bad) {
        List<String> values = new ArrayList<>(List.of(good));
        values.addAll(List.of(bad));
        boolean isNamed = type.contains("\"name\":\"N\"");
        for (String value : values) {
            for (int way = 0; way < WAYS * WAYS; way++) {
                aroundDefault("", type, value, good[0], way);
                if (isNamed) {
                    aroundDefault(Texts.field("\"n\"", type) + ",", "\"N\"", value, good[0], way);
                    aroundDefault(Texts.field("\"n\"", type) + ",", "{\"type\":\"N\"}", value, good[0], way);
                }
            }
        }
    }

    private static void aroundDefault(String before, String type, String value, String good, int way) {
        Case inner = in(way % WAYS, new Case(type, value, good), 1);
        if (isUnion(inner.type()) && (way / WAYS == 3 || way / WAYS == 4)) {
            return;
        }
        Case outer = in(way / WAYS, inner, 2);
        String text = Texts.record("\"R\"", before + Texts.field("\"f\"", outer.type(), outer.value()));
        if (value.indexOf('@') < 0) {
            KIT.dueGood(text);
        } else {
            KIT.dueFaultAt(text, 12);
        }
    }

    /** Two schemas in the same way, and whether one fits and matches the other then. */
    private record Two(String w, String r, boolean isFit, boolean isMatch) {
    }

    private static Two in(int way, Two two) {
        String w = two.w();
        String r = two.r();
        switch (way) {
            case 0: return two;
            case 1: return new Two(Texts.array(w), Texts.array(r), two.isFit(), two.isMatch());
            case 2: return new Two(Texts.map(w), Texts.map(r), two.isFit(), two.isMatch());
            case 3: return new Two("[" + w + "]", r, two.isFit(), true);
            case 4: return new Two(w, "[" + r + "," + Texts.fixed("\"U\"", "3") + "]", two.isFit(), true);
            default: return new Two(Texts.record("\"W\"", Texts.field("\"v\"", w)), Texts.record("\"W\"", Texts.field("\"u\"", "\"int\"", "1"),
                Texts.field("\"v\"", r)), two.isFit(), true);
        }
    }

    private static void around(String before, Two two) {
        for (int way = 0; way < WAYS * WAYS; way++) {
            Two inner = in(way % WAYS, two);
            int last = way / WAYS;
            boolean isTwice = last == 3 && isUnion(inner.w()) || last == 4 && isUnion(inner.r()) || last == 5 && way % WAYS == 5
                || last == 4 && inner.r().contains("\"U\"");
            if (!isTwice) {
                Two outer = in(last, inner);
                ask(before, outer);
            }
        }
    }

    /** With what comes before, both stand in a record behind it, so that they can name what it defines. */
    private static void ask(String before, Two two) {
        String w = two.w();
        String r = two.r();
        boolean isMatch = two.isMatch();
        if (!before.isEmpty()) {
            // What is defined there is asked with a default, so that it does not count itself.
            String[] defined = before.split("@");
            w = Texts.record("\"T\"", Texts.field("\"d\"", Texts.array(defined[0])), Texts.field("\"v\"", w));
            r = Texts.record("\"T\"", Texts.field("\"e\"", Texts.array(defined[1]), "[]"), Texts.field("\"v\"", r));
            isMatch = true;
        }
        SchemaReader x = Kit.keeping(w, r);
        KIT.due(w + " fits " + r, x.fits(0, 1), two.isFit());
        KIT.due(w + " matches " + r, x.matches(0, 1), isMatch);
    }

    /** "the same of the six, INT as LONG, BYTES and STRING". */
    private static void sixWords() {
        for (int i = 0; i < 6; i++) {
            for (int k = 0; k < 6; k++) {
                boolean isDue = i == k || i == 2 && k == 3 || i == 4 && k == 5 || i == 5 && k == 4;
                around("", new Two(Texts.SIX[i], Texts.SIX[k], isDue, isDue));
            }
            for (String other : new String[] {FIXED, ENUM, RECORD, Texts.array(Texts.SIX[i]), Texts.map(Texts.SIX[i])}) {
                around("", new Two(Texts.SIX[i], other, false, false));
                around("", new Two(other, Texts.SIX[i], false, false));
            }
        }
    }

    /** "FIXED of the same name and size; ENUM of the same name ..; RECORD of the same name ..". */
    private static void named() {
        String one = Texts.record("\"N\"", Texts.field("\"x\"", "\"int\""));
        both(FIXED, FIXED, true, true);
        both(FIXED, Texts.fixed("\"N\"", "3"), false, false);
        both(FIXED, ENUM, false, false);
        both(ENUM, RECORD, false, false);
        both(RECORD, FIXED, false, false);
        both(ENUM, ENUM, true, true);
        both(ENUM, Texts.enumOf("\"N\"", "[\"b\",\"c\",\"a\"]"), true, true);
        both(ENUM, Texts.enumOf("\"N\"", "[\"a\"]"), false, true);
        both(ENUM, Texts.enumOf("\"N\"", "[\"c\"]", "\"c\""), true, true);
        both(Texts.enumOf("\"N\"", "[\"a\"]", "\"a\""), Texts.enumOf("\"N\"", "[\"b\"]"), false, true);
        both(RECORD, RECORD, true, true);
        both(RECORD, one, true, true);
        both(one, RECORD, false, true);
        both(one, Texts.record("\"N\"", Texts.field("\"x\"", "\"long\""), Texts.field("\"y\"", "\"string\"", "\"\"")), true, true);
        both(Texts.record("\"N\"", Texts.field("\"x\"", "\"long\"")), one, false, true);
        around("", new Two(FIXED, Texts.fixed("\"M\"", "2"), false, false));
        around("", new Two(ENUM, Texts.enumOf("\"M\"", "[\"a\",\"b\"]", "\"a\""), false, false));
        around("", new Two(RECORD, Texts.record("\"M\""), false, false));
    }

    /** The two as they are, and by the name that both of them have. */
    private static void both(String w, String r, boolean isFit, boolean isMatch) {
        around("", new Two(w, r, isFit, isMatch));
        around(w + "@" + r, new Two("\"N\"", "\"N\"", isFit, isMatch));
        around(w + "@" + r, new Two("{\"type\":\"N\"}", "{\"type\":\"N\"}", isFit, isMatch));
    }
}
