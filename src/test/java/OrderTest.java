import java.util.ArrayList;
import java.util.Collections;
import java.util.List;

/**
 * "The schema of a value v, looked at in this order; the first FAULT ends all": for each kind of
 * object, all its members in every state, good and bad, put together in all ways. The states stand
 * in the document's order, so the first bad one is the fault that is due.
 */
final class OrderTest {
    private static final Kit KIT = new Kit("OrderTest");

    /** A member in one state: its text (null: it lacks), its fault (0: none), and @ where that is told. */
    private record State(String member, int fault) {
        boolean isToldInside() {
            return member != null && member.indexOf('@') >= 0;
        }

        String text(boolean isTold) {
            return isTold ? member : member.replace("@", "");
        }
    }

    private static final State[] ITEMS = {new State("\"items\":\"int\"", 0), new State(null, 8),
        new State("\"items\":@1", 2), new State("\"items\":@\"no\"", 3), new State("\"items\":@[]", 5),
        new State("\"items\":@{}", 7)};
    private static final State[] NAMES = {new State("\"name\":\"A\"", 0), new State(null, 8), new State("\"name\":1", 8),
        new State("\"name\":[\"A\"]", 8), new State("\"name\":@\"\"", 9), new State("\"name\":@\"enum\"", 9),
        new State("\"name\":@\"K\"", 9)};
    private static final State[] SIZES = {new State("\"size\":64", 0), new State(null, 8), new State("\"size\":@65", 10),
        new State("\"size\":@\"4\"", 10)};
    private static final State[] SYMBOLS = {new State("\"symbols\":[\"a\",\"b\"]", 0), new State(null, 8),
        new State("\"symbols\":@[]", 11), new State("\"symbols\":@\"a\"", 11), new State("\"symbols\":[@1,\"a\",\"b\"]", 11),
        new State("\"symbols\":[\"a\",\"b\",@\"9\"]", 11), new State("\"symbols\":[\"a\",\"b\",@\"a\",1]", 11)};
    private static final State[] ENUM_DEFAULTS = {new State("\"other\":1", 0), new State("\"default\":\"b\"", 0),
        new State("\"default\":@\"c\"", 12), new State("\"default\":@1", 12), new State("\"default\":@null", 12)};
    private static final State[] FIELDS = {new State("\"fields\":[]", 0), new State(null, 8), new State("\"fields\":@1", 11),
        new State("\"fields\":@{}", 11), new State("\"fields\":[@1]", 11), new State("\"fields\":[@{}]", 8),
        new State("\"fields\":[{\"name\":@\"\"}]", 9), new State("\"fields\":[{\"name\":\"a\",\"type\":@1}]", 2),
        new State("\"fields\":[{\"name\":\"a\",\"type\":\"int\",\"default\":@\"\"}]", 12)};
    private static final State[] FIELD_NAMES = {new State("\"name\":\"a\"", 0), new State("\"name\":\"int\"", 0),
        new State(null, 8), new State("\"name\":1", 8), new State("\"name\":@\"\"", 9), new State("\"name\":@\"k\"", 9)};
    private static final State[] FIELD_TYPES = {new State("\"type\":\"int\"", 0), new State(null, 8),
        new State("\"type\":@1", 2), new State("\"type\":@\"no\"", 3), new State("\"type\":@[]", 5),
        new State("\"type\":[\"int\",@\"int\"]", 6), new State("\"type\":@{}", 7), new State("\"type\":@{\"type\":\"map\"}", 8)};
    private static final State[] FIELD_DEFAULTS = {new State("\"other\":1", 0), new State("\"default\":1", 0),
        new State("\"default\":@null", 12), new State("\"default\":@2147483648", 12)};

    public static void main(String[] args) {
        String known = "[" + Texts.fixed("\"K\"", "1") + ",";
        all(known, "]", type("array"), ITEMS);
        all(known, "]", type("map"), inMaps(ITEMS));
        all(known, "]", type("fixed"), NAMES, SIZES);
        all(known, "]", type("enum"), NAMES, SYMBOLS, ENUM_DEFAULTS);
        all(known, "]", type("record"), NAMES, FIELDS);
        all("{\"type\":\"record\",\"name\":\"R\",\"fields\":[{\"name\":\"k\",\"type\":\"int\"},", "]}", FIELD_NAMES, FIELD_TYPES,
            FIELD_DEFAULTS);
        fieldsInOrder();
        branchesInOrder();
        defaultsBehindAll();
        KIT.end();
    }

    /** The member "type" comes first in the document's order; each kind is asked with and without it. */
    private static State[] type(String kind) {
        return new State[] {new State("\"type\":\"" + kind + "\"", 0), new State(null, 7), new State("\"type\":null", 7),
            new State("\"type\":[\"" + kind + "\"]", 7), new State("\"type\":@\"" + kind + "s\"", 3)};
    }

    private static State[] inMaps(State[] items) {
        State[] states = new State[items.length];
        for (int i = 0; i < items.length; i++) {
            String member = items[i].member();
            states[i] = new State(member == null ? null : member.replace("\"items\"", "\"values\""), items[i].fault());
        }
        return states;
    }

    private static void all(String before, String behind, State[]... members) {
        int ways = 1;
        for (State[] states : members) {
            ways *= states.length;
        }
        for (int way = 0; way < ways; way++) {
            List<State> picked = new ArrayList<>();
            int rest = way;
            for (State[] states : members) {
                picked.add(states[rest % states.length]);
                rest /= states.length;
            }
            one(before, behind, picked);
        }
    }

    /** The members in the document's order, and turned round: their order in the text does not count. */
    private static void one(String before, String behind, List<State> members) {
        State told = null;
        for (State state : members) {
            if (told == null && state.fault() != 0) {
                told = state;
            }
        }
        List<String> texts = new ArrayList<>();
        for (State state : members) {
            if (state.member() != null) {
                texts.add(state.text(state == told));
            }
        }
        String mark = told != null && !told.isToldInside() ? "@" : "";
        for (int i = 0; i < 2; i++) {
            String text = before + mark + "{" + String.join(",", texts) + "}" + behind;
            if (told == null) {
                KIT.dueGood(text);
            } else {
                KIT.dueFaultAt(text, told.fault());
            }
            Collections.reverse(texts);
        }
    }

    /** "then each in order": all that is wrong with a field comes before what is wrong with the next one. */
    private static void fieldsInOrder() {
        String[] fields = {"{\"name\":\"f#\",\"type\":\"int\"}", "@1", "@{}", "@{\"name\":1,\"type\":\"int\"}",
            "{\"name\":@\"\",\"type\":\"int\"}", "@{\"name\":\"f#\"}", "{\"name\":\"f#\",\"type\":@1}",
            "{\"name\":\"f#\",\"type\":@\"no\"}", "{\"name\":\"f#\",\"type\":{\"type\":\"enum\",\"name\":\"E#\",\"symbols\":@[]}}"};
        int[] faults = {0, 11, 8, 8, 9, 8, 2, 3, 11};
        for (int i = 0; i < fields.length; i++) {
            for (int k = 0; k < fields.length; k++) {
                inOrder("{\"type\":\"record\",\"name\":\"R\",\"fields\":[", "]}", fields[i].replace("#", "1"), faults[i],
                    fields[k].replace("#", "2"), faults[k]);
            }
        }
    }

    /** "each branch is looked at in order; 6, when it has been". */
    private static void branchesInOrder() {
        String[] branches = {"{\"type\":\"fixed\",\"name\":\"F#\",\"size\":#}", "@1", "@\"no\"", "@[\"null\"]", "@[]", "@\"int\"",
            "@{\"type\":\"array\",\"items\":\"int\"}", "{\"type\":\"array\",\"items\":@\"no\"}", "@{}", "@{\"type\":\"map\"}",
            "@\"K\"", "@{\"type\":\"K\"}", "{\"type\":\"enum\",\"name\":@\"K\",\"symbols\":[\"a\"]}"};
        int[] faults = {0, 2, 3, 4, 4, 6, 6, 3, 7, 8, 6, 6, 9};
        String before = "[\"int\"," + Texts.array("\"int\"") + "," + Texts.fixed("\"K\"", "1") + ",";
        for (int i = 0; i < branches.length; i++) {
            for (int k = 0; k < branches.length; k++) {
                inOrder(before, "]", branches[i].replace("#", "1"), faults[i], branches[k].replace("#", "2"), faults[k]);
            }
        }
    }

    private static void inOrder(String before, String behind, String first, int firstFault, String second, int secondFault) {
        String one = firstFault != 0 ? first : first.replace("@", "");
        String two = firstFault == 0 ? second : second.replace("@", "");
        String text = before + one + "," + two + behind;
        int fault = firstFault != 0 ? firstFault : secondFault;
        if (fault == 0) {
            KIT.dueGood(text);
        } else {
            KIT.dueFaultAt(text, fault);
        }
    }

    /** "Then the members \"default\" of all fields": whatever is wrong elsewhere is told before them. */
    private static void defaultsBehindAll() {
        String[] wrong = {"@1", "@\"no\"", "@[]", "[\"int\",@\"int\"]", "@{}", "@{\"type\":\"array\"}",
            "{\"type\":\"fixed\",\"name\":@\"R\",\"size\":1}", "{\"type\":\"fixed\",\"name\":\"F\",\"size\":@-1}",
            "{\"type\":\"enum\",\"name\":\"E\",\"symbols\":@[]}", "{\"type\":\"enum\",\"name\":\"E\",\"symbols\":[\"a\"],\"default\":@\"b\"}",
            Texts.arrays(15, "@\"int\"")};
        int[] faults = {2, 3, 5, 6, 7, 8, 9, 10, 11, 12, 14};
        String bad = Texts.field("\"a\"", "\"int\"", "null");
        for (int i = 0; i < wrong.length; i++) {
            KIT.dueFaultAt(Texts.record("\"R\"", bad, Texts.field("\"b\"", wrong[i])), faults[i]);
            KIT.dueFaultAt(Texts.record("\"R\"", Texts.field("\"b\"", wrong[i], "null"), bad), faults[i]);
        }
        KIT.dueFaultAt(Texts.record("\"R\"", bad.replace("null", "@null"), Texts.field("\"b\"", "\"int\"")), 12);
    }
}
