/** Promises 2 and 3: feed and end. */
final class TapeTest {
    private static final Kit KIT = new Kit("TapeTest");

    public static void main(String[] args) {
        bytesComeHighestFirst();
        feedCountsUpToTheLimit();
        lastRoomIsUsed();
        endCuts();
        theTapeStays();
        KIT.end();
    }

    private static void bytesComeHighestFirst() {
        SchemaReader x = new SchemaReader();
        // {"type":"array","items":"int"} with the blanks 32, 9, 10 and 13 behind it
        KIT.due("feed", x.feed(0x7b227479, 0x7065223a, 0x22617272, 0x6179222c, 0x22697465), 20);
        KIT.due("feed", x.feed(0x6d73223a, 0x22696e74, 0x227d2009, 0x0a0d2020, 0x80ff00ff), 40);
        KIT.due("schema() with 0x80 behind", x.schema(), 1);
        KIT.due("place()", x.place(), 36);
        x.end(36);
        KIT.due("schema()", x.schema(), 0);
        KIT.due("plain", Kit.plain(x), "{\"type\":\"array\",\"items\":\"int\"}");
    }

    private static void feedCountsUpToTheLimit() {
        SchemaReader x = new SchemaReader();
        for (int i = 1; i <= 204; i++) {
            KIT.due("feed", x.feed(0x20202020, 0x20202020, 0x20202020, 0x20202020, 0x20202020), 20 * i);
        }
        KIT.dueThrow("feed to 4100", () -> x.feed(0, 0, 0, 0, 0), IllegalStateException.class);
        KIT.due("schema() of blanks alone", x.schema(), 1);
        KIT.due("place()", x.place(), 4080);
        KIT.dueThrow("end(4081)", () -> x.end(4081), IllegalArgumentException.class);
        x.end(4077);
        KIT.dueThrow("feed to 4097", () -> x.feed(0, 0, 0, 0, 0), IllegalStateException.class);
    }

    private static void lastRoomIsUsed() {
        SchemaReader x = new SchemaReader();
        for (int i = 0; i < 204; i++) {
            x.feed(0x20202020, 0x20202020, 0x20202020, 0x20202020, 0x20202020);
        }
        x.end(4076);
        KIT.due("feed to 4096", x.feed(0x20202020, 0x20202020, 0x20202020, 0x2022696e, 0x74222020), 4096);
        KIT.due("schema() of 4096 bytes", x.schema(), 0);
        KIT.due("size()", x.size(), 5);
        KIT.dueThrow("feed past 4096", () -> x.feed(0, 0, 0, 0, 0), IllegalStateException.class);
        x.end(4094);
        KIT.due("schema() of 4094 bytes", x.schema(), 0);
        x.end(4093);
        KIT.due("schema() of 4093 bytes", x.schema(), 1);
        KIT.due("place()", x.place(), 4093);
    }

    private static void endCuts() {
        SchemaReader x = new SchemaReader();
        KIT.dueThrow("end(-1)", () -> x.end(-1), IllegalArgumentException.class);
        KIT.dueThrow("end(least)", () -> x.end(Integer.MIN_VALUE), IllegalArgumentException.class);
        KIT.dueThrow("end(most)", () -> x.end(Integer.MAX_VALUE), IllegalArgumentException.class);
        Kit.put(x, "\"int\"");
        KIT.dueThrow("end(6)", () -> x.end(6), IllegalArgumentException.class);
        KIT.dueThrow("end(5)", () -> x.end(5), null);
        KIT.due("schema()", x.schema(), 0);
        x.end(4);
        KIT.dueThrow("end(5) behind a cut", () -> x.end(5), IllegalArgumentException.class);
        KIT.due("feed behind a cut", x.feed(0x22202020, 0x20202020, 0x20202020, 0x20202020, 0x20202020), 24);
        KIT.due("schema() of what was put together", x.schema(), 0);
    }

    private static void theTapeStays() {
        SchemaReader x = new SchemaReader();
        Kit.put(x, " \"long\"");
        for (int i = 0; i < 3; i++) {
            KIT.due("schema() again", x.schema(), 0);
            KIT.due("size()", x.size(), 6);
        }
        x.keep(0);
        KIT.due("schema() behind keep", x.schema(), 0);
        // What is the latest does not hang on the tape.
        x.end(0);
        KIT.due("plain behind end(0)", Kit.plain(x), "\"long\"");
        x.feed(0, 0, 0, 0, 0);
        KIT.due("plain behind feed", Kit.plain(x), "\"long\"");
        KIT.due("place() behind feed", x.place(), SchemaReader.NONE);
    }
}
