import java.util.ArrayList;
import java.util.Collections;
import java.util.List;

/**
 * "Other members do not count", nor does the order of those that do, nor how their strings are
 * written: the schema of each text stays what it is.
 */
final class MembersTest {
    private static final Kit KIT = new Kit("MembersTest");
    private static final String[] MEANT_ELSEWHERE = {"items", "values", "name", "size", "symbols", "fields", "default"};
    private static final String[] MEANT_NOWHERE = {"", "doc", "namespace", "aliases", "order", "logicalType", "Type", "TYPE",
        " type", "type ", "typ", "types", "Name", "names", "Items", "item", "Default", "\\u0000", "type\\u0000", "\\\"type\\\""};
    private static final String[] VALUES = {"null", "true", "-1", "-9223372036854775808", "\"\"", "\"int\"", "\"R\"", "[]", "[[]]",
        "[\"int\",\"int\"]", "{}", "{\"type\":5}", "{\"type\":\"record\",\"name\":\"A\",\"fields\":[]}"};

    /** An object with all it needs, what stands around it, and the plain form of both. */
    private record Whole(String before, String[] members, String behind, String plain) {
    }

    private static final Whole[] WHOLES = {
        new Whole("", new String[] {"\"type\":\"int\""}, "", "\"int\""),
        new Whole("", new String[] {"\"type\":\"array\"", "\"items\":\"long\""}, "", "{\"type\":\"array\",\"items\":\"long\"}"),
        new Whole("", new String[] {"\"type\":\"map\"", "\"values\":\"long\""}, "", "{\"type\":\"map\",\"values\":\"long\"}"),
        new Whole("", new String[] {"\"type\":\"fixed\"", "\"name\":\"F\"", "\"size\":12"}, "",
            "{\"name\":\"F\",\"type\":\"fixed\",\"size\":12}"),
        new Whole("", new String[] {"\"type\":\"enum\"", "\"name\":\"E\"", "\"symbols\":[\"a\",\"b\"]", "\"default\":\"b\""}, "",
            "{\"name\":\"E\",\"type\":\"enum\",\"symbols\":[\"a\",\"b\"]}"),
        new Whole("", new String[] {"\"type\":\"record\"", "\"name\":\"S\"", "\"fields\":[{\"name\":\"a\",\"type\":\"int\"}]"}, "",
            "{\"name\":\"S\",\"type\":\"record\",\"fields\":[{\"name\":\"a\",\"type\":\"int\"}]}"),
        new Whole("{\"type\":\"record\",\"name\":\"S\",\"fields\":[",
            new String[] {"\"name\":\"a\"", "\"type\":\"int\"", "\"default\":7"}, "]}",
            "{\"name\":\"S\",\"type\":\"record\",\"fields\":[{\"name\":\"a\",\"type\":\"int\"}]}"),
        new Whole("[{\"type\":\"array\",\"items\":{\"type\":\"fixed\",\"name\":\"F\",\"size\":1}},", new String[] {"\"type\":\"F\""}, "]",
            "[{\"type\":\"array\",\"items\":{\"name\":\"F\",\"type\":\"fixed\",\"size\":1}},\"F\"]"),
    };

    public static void main(String[] args) {
        for (Whole whole : WHOLES) {
            othersDoNotCount(whole);
            orderDoesNotCount(whole);
            escapesDoNotCount(whole);
            lettersDoCount(whole);
        }
        wordsToTheirLastByte();
        KIT.end();
    }

    private static void plain(Whole whole, List<String> members) {
        String text = whole.before() + "{" + String.join(",", members) + "}" + whole.behind();
        SchemaReader x = new SchemaReader();
        KIT.dueFault(x, text, 0, SchemaReader.NONE);
        KIT.due("plain form of " + text, Kit.plain(x), whole.plain());
        KIT.due("print() of " + text, x.print(), Kit.printOf(whole.plain()));
    }

    private static boolean has(Whole whole, String name) {
        for (String member : whole.members()) {
            if (member.startsWith(Texts.quoted(name) + ":")) {
                return true;
            }
        }
        return false;
    }

    /** "Other members do not count": those of another kind, and those of none, with any value. */
    private static void othersDoNotCount(Whole whole) {
        List<String> names = new ArrayList<>(List.of(MEANT_ELSEWHERE));
        names.addAll(List.of(MEANT_NOWHERE));
        // A record has no default of its own, and an enum's and a field's were given above.
        names.removeIf(name -> has(whole, name));
        for (String name : names) {
            for (String value : VALUES) {
                for (int at = 0; at <= 1; at++) {
                    List<String> members = new ArrayList<>(List.of(whole.members()));
                    members.add(at * members.size(), Texts.quoted(name) + ":" + value);
                    plain(whole, members);
                }
            }
        }
        List<String> all = new ArrayList<>(List.of(whole.members()));
        for (String name : names) {
            all.add(Texts.quoted(name) + ":[1]");
        }
        plain(whole, all);
    }

    /** "an OBJECT of members": each of them first, and all turned round. */
    private static void orderDoesNotCount(Whole whole) {
        List<String> members = new ArrayList<>(List.of(whole.members()));
        for (int i = 0; i < members.size(); i++) {
            Collections.rotate(members, 1);
            plain(whole, members);
        }
        Collections.reverse(members);
        plain(whole, members);
    }

    /** "\\u and four of 0-9 a-f A-F for that number": a string is what its bytes are. */
    private static void escapesDoNotCount(Whole whole) {
        for (int i = 0; i < whole.members().length; i++) {
            String member = whole.members()[i];
            int end = member.indexOf(':');
            String name = member.substring(1, end - 1);
            for (int first = 0; first < name.length(); first++) {
                plain(whole, with(whole, i, Texts.quoted(escaped(name, first, first + 1)) + member.substring(end)));
            }
            plain(whole, with(whole, i, Texts.quoted(escaped(name, 0, name.length())) + member.substring(end)));
        }
    }

    /** A member whose string differs by one letter is another one, so the one that is needed lacks. */
    private static void lettersDoCount(Whole whole) {
        for (int i = 0; i < whole.members().length; i++) {
            String member = whole.members()[i];
            if (member.startsWith("\"default\"")) {
                continue;
            }
            int end = member.indexOf(':');
            String name = member.substring(1, end - 1);
            boolean isField = whole.before().startsWith("{");
            int fault = name.equals("type") && !isField ? 7 : 8;
            for (String near : new String[] {name.toUpperCase(), name.substring(1), name + "s", " " + name, name + "\\u0000"}) {
                String text = whole.before() + "{" + String.join(",", with(whole, i, Texts.quoted(near) + member.substring(end)))
                    + "}" + whole.behind();
                KIT.dueFault(text, fault, whole.before().length());
            }
        }
    }

    private static List<String> with(Whole whole, int i, String member) {
        List<String> members = new ArrayList<>(List.of(whole.members()));
        members.set(i, member);
        return members;
    }

    private static String escaped(String name, int from, int to) {
        StringBuilder text = new StringBuilder();
        for (int i = 0; i < name.length(); i++) {
            text.append(i >= from && i < to ? Texts.escaped(name.charAt(i)) : "" + name.charAt(i));
        }
        return text.toString();
    }

    /** "one of the six words: that; .. else 3": near a word is no word, as a string and as a type. */
    private static void wordsToTheirLastByte() {
        String[] words = {"null", "boolean", "int", "long", "bytes", "string", "array", "map", "fixed", "enum", "record"};
        for (int i = 0; i < words.length; i++) {
            String word = words[i];
            for (String near : new String[] {word.toUpperCase(), Character.toUpperCase(word.charAt(0)) + word.substring(1),
                " " + word, word + " ", word + "s_", word.substring(1), word.substring(0, word.length() - 1), word + "\\u0000",
                "\\\"" + word + "\\\""}) {
                KIT.dueFaultAt("@" + Texts.quoted(near), 3);
                KIT.dueFaultAt("{\"items\":1,\"name\":2,\"type\":@" + Texts.quoted(near) + "}", 3);
            }
            String all = Texts.quoted(escaped(word, 0, word.length()));
            if (i < 6) {
                KIT.duePlain(all, Texts.quoted(word));
                KIT.duePlain("{\"type\":" + all + "}", Texts.quoted(word));
            } else {
                KIT.dueFaultAt("@" + all, 3);
                KIT.dueFaultAt("@{\"type\":" + all + "}", 8);
            }
        }
        for (String other : new String[] {"union", "error", "float", "double", "decimal", "object", "list", "number", "true", "type"}) {
            KIT.dueFaultAt("@" + Texts.quoted(other), 3);
            KIT.dueFaultAt("{\"type\":@" + Texts.quoted(other) + ",\"name\":\"A\",\"items\":\"int\",\"fields\":[]}", 3);
        }
    }
}
