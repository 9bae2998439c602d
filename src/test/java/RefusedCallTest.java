import java.util.ArrayList;
import java.util.List;

/**
 * "A call that throws changes nothing; of several exceptions the one named first is thrown." In
 * each of a dozen states the calls that must throw (every pair of places from -1 to 8, and the
 * arguments at the edges) are made, each on an object of its own, which must then tell the same as
 * one that was brought there alike.
 */
final class RefusedCallTest {
    private static final Kit KIT = new Kit("RefusedCallTest");
    private static final String FULL = "\"int\"" + " ".repeat(4091);
    private static final int[] NO_PLACES = {-1, 8, Integer.MIN_VALUE, Integer.MAX_VALUE};

    /** A state: what is kept where, what was looked at last, and what is on the tape. */
    private static final class State {
        final String name;
        final String[] kept;
        final String looked;
        final boolean isLatest;
        final String tape;

        /** Looked may be null: nothing was looked at. Latest is what was looked at if it has no fault. */
        State(String name, String[] kept, String looked, boolean isLatest, String tape) {
            this.name = name;
            this.kept = kept;
            this.looked = looked;
            this.isLatest = isLatest;
            this.tape = tape;
        }

        SchemaReader made() {
            SchemaReader x = new SchemaReader();
            for (int i = 0; i < kept.length; i++) {
                if (kept[i] != null) {
                    Kit.keep(x, i, kept[i]);
                }
            }
            if (looked != null) {
                Kit.put(x, looked);
                x.schema();
            }
            Kit.put(x, tape);
            return x;
        }

        boolean keeps(int place) {
            return place < kept.length && kept[place] != null;
        }
    }

    /** A call that the document refuses in a state, and the exception. */
    private static final class Refused {
        final String name;
        final java.util.function.Consumer<SchemaReader> call;
        final Class<? extends RuntimeException> exception;

        Refused(String name, java.util.function.Consumer<SchemaReader> call, Class<? extends RuntimeException> exception) {
            this.name = name;
            this.call = call;
            this.exception = exception;
        }
    }

    public static void main(String[] args) {
        String record = Texts.record("\"R\"", Texts.field("\"a\"", "[\"null\",\"R\"]", "null"));
        String[] none = {};
        String[] some = {null, null, null, record, null, null, null, "\"long\""};
        String[] all = {"\"int\"", "\"long\"", record, "[\"null\",\"int\"]", Texts.array("\"int\""), Texts.map("\"int\""),
            Texts.fixed("\"F\"", "2"), Texts.enumOf("\"E\"", "[\"a\"]")};
        State[] states = {
            new State("a new object", none, null, false, ""),
            new State("a tape alone", none, null, false, " \"long\""),
            new State("a tape with room for no more", none, null, false, FULL.substring(0, 4077)),
            new State("a full tape", none, null, false, FULL),
            new State("a latest", none, record, true, record),
            new State("a latest and an empty tape", none, "\"int\"", true, ""),
            new State("a fault", none, "[\"int\", 3]", false, "\"null\""),
            new State("two kept", some, null, false, "\"null\""),
            new State("two kept and a fault", some, "", false, ""),
            new State("two kept and a latest", some, record, true, "[1]"),
            new State("all kept", all, null, false, "\"null\""),
            new State("all kept, a latest and a full tape", all, "[\"int\"]", true, FULL),
        };
        for (State state : states) {
            String due = told(state.made(), state);
            for (Refused refused : refusedIn(state)) {
                SchemaReader x = state.made();
                String what = refused.name + " with " + state.name;
                KIT.dueThrow(what, () -> refused.call.accept(x), refused.exception);
                KIT.due("what is told behind " + what, told(x, state), due);
            }
            allAtOnce(state, due);
        }
        theOneNamedFirst();
        KIT.end();
    }

    private static void allAtOnce(State state, String due) {
        SchemaReader x = state.made();
        int calls = 0;
        for (Refused refused : refusedIn(state)) {
            // An object has 512 calls, and telling takes most of them.
            if (calls < 60) {
                KIT.dueThrow(refused.name + " behind others with " + state.name, () -> refused.call.accept(x), refused.exception);
            }
            calls++;
        }
        KIT.due("what is told behind all that is refused with " + state.name, told(x, state), due);
    }

    private static List<Refused> refusedIn(State state) {
        List<Refused> all = new ArrayList<>();
        int length = state.tape.length();
        if (length > 4076) {
            all.add(new Refused("feed", x -> x.feed(0x78787878, 0x78787878, 0x78787878, 0x78787878, 0x78787878),
                IllegalStateException.class));
        }
        for (int n : new int[] {-1, length + 1, Integer.MIN_VALUE, Integer.MAX_VALUE}) {
            all.add(new Refused("end(" + n + ")", x -> x.end(n), IllegalArgumentException.class));
        }
        int size = state.isLatest ? state.made().size() : 0;
        for (int i : new int[] {-1, size, size + 1, Integer.MIN_VALUE, Integer.MAX_VALUE}) {
            all.add(new Refused("letter(" + i + ")", x -> x.letter(i), IndexOutOfBoundsException.class));
        }
        for (int place : NO_PLACES) {
            all.add(new Refused("keep(" + place + ")", x -> x.keep(place), IndexOutOfBoundsException.class));
        }
        for (int place = 0; place < 8 && !state.isLatest; place++) {
            int at = place;
            all.add(new Refused("keep(" + at + ")", x -> x.keep(at), IllegalStateException.class));
        }
        addPairs(all, state);
        return all;
    }

    private static void addPairs(List<Refused> all, State state) {
        for (int w = -1; w <= 8; w++) {
            for (int r = -1; r <= 8; r++) {
                boolean isNowhere = w < 0 || w > 7 || r < 0 || r > 7;
                if (isNowhere || !(state.keeps(w) && state.keeps(r))) {
                    addPair(all, w, r, isNowhere ? IndexOutOfBoundsException.class : IllegalStateException.class);
                }
            }
        }
    }

    private static void addPair(List<Refused> all, int w, int r, Class<? extends RuntimeException> exception) {
        all.add(new Refused("fits(" + w + ", " + r + ")", x -> x.fits(w, r), exception));
        all.add(new Refused("matches(" + w + ", " + r + ")", x -> x.matches(w, r), exception));
    }

    /**
     * What can be asked, what changes nothing first; the object is spent then. Of the 64 pairs of
     * places 24 are asked, each place being a writer and a reader, as an object has 512 calls.
     */
    private static String told(SchemaReader x, State state) {
        StringBuilder all = new StringBuilder();
        tell(all, "place", () -> x.place());
        tell(all, "size", () -> x.size());
        tell(all, "plain", () -> Kit.plain(x));
        tell(all, "print", () -> x.print());
        for (int w = 0; w < 8; w++) {
            for (int k = 0; k < 3; k++) {
                int a = w;
                int r = (w * 3 + k) % 8;
                tell(all, "fits", () -> x.fits(a, r));
                tell(all, "matches", () -> x.matches(a, r));
            }
        }
        int length = state.tape.length();
        tell(all, "end one too far", () -> cut(x, length + 1));
        tell(all, "end", () -> cut(x, length));
        tell(all, "keep", () -> x.keep(5));
        tell(all, "schema", () -> x.schema());
        tell(all, "place", () -> x.place());
        tell(all, "plain", () -> Kit.plain(x));
        tell(all, "feed", () -> x.feed(0x20202020, 0x20202020, 0x20202020, 0x20202020, 0x20202078));
        tell(all, "schema", () -> x.schema());
        tell(all, "place", () -> x.place());
        return all.toString();
    }

    private static int cut(SchemaReader x, int n) {
        x.end(n);
        return n;
    }

    private static void tell(StringBuilder all, String name, java.util.function.Supplier<Object> call) {
        String answer;
        try {
            answer = String.valueOf(call.get());
        } catch (RuntimeException e) {
            answer = e.getClass().getSimpleName();
        }
        all.append(name).append(' ').append(answer).append("; ");
    }

    /** keep, fits and matches may throw two: IndexOutOfBoundsException is named first. */
    private static void theOneNamedFirst() {
        SchemaReader none = new SchemaReader();
        SchemaReader some = Kit.keeping("\"int\"");
        for (int place : NO_PLACES) {
            KIT.dueThrow("keep of none at no place", () -> none.keep(place), IndexOutOfBoundsException.class);
            KIT.dueThrow("fits(no place, none kept)", () -> none.fits(place, 0), IndexOutOfBoundsException.class);
            KIT.dueThrow("fits(none kept, no place)", () -> none.fits(0, place), IndexOutOfBoundsException.class);
            KIT.dueThrow("matches(no place, none kept)", () -> none.matches(place, 0), IndexOutOfBoundsException.class);
            KIT.dueThrow("matches(none kept, no place)", () -> none.matches(0, place), IndexOutOfBoundsException.class);
            KIT.dueThrow("fits(no place, kept)", () -> some.fits(place, 0), IndexOutOfBoundsException.class);
            KIT.dueThrow("fits(kept, no place)", () -> some.fits(0, place), IndexOutOfBoundsException.class);
        }
    }
}
