/** Promise 1: an empty tape, nothing kept; and no object knows of another. */
final class NewObjectTest {
    public static void main(String[] args) {
        Kit kit = new Kit("NewObjectTest");
        SchemaReader other = Kit.keeping("\"int\"", "\"long\"");
        Kit.put(other, "\"string\"");
        other.schema();

        SchemaReader x = new SchemaReader();
        kit.due("place()", x.place(), SchemaReader.NONE);
        kit.due("size()", x.size(), 0);
        kit.due("print()", x.print(), 0);
        kit.dueThrow("letter(0)", () -> x.letter(0), IndexOutOfBoundsException.class);
        kit.dueThrow("keep(0)", () -> x.keep(0), IllegalStateException.class);
        for (int i = 0; i < 8; i++) {
            int place = i;
            kit.dueThrow("fits", () -> x.fits(place, place), IllegalStateException.class);
            kit.dueThrow("matches", () -> x.matches(place, place), IllegalStateException.class);
        }
        kit.dueThrow("end(0)", () -> x.end(0), null);
        kit.dueThrow("end(1)", () -> x.end(1), IllegalArgumentException.class);
        kit.due("feed", x.feed(0, 0, 0, 0, 0), 20);
        kit.due("NONE", SchemaReader.NONE, -1);
        kit.end();
    }
}
