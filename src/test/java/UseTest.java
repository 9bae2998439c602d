/** What README.md says under "Use", line by line. */
final class UseTest {
    public static void main(String[] args) {
        Kit kit = new Kit("UseTest");
        SchemaReader x = new SchemaReader();
        put(x, "[\"null\", {\"type\": \"int\"}]");
        int fault = x.schema();
        int size = x.size();
        int first = x.letter(0);
        long print = x.print();
        kit.due("fault", fault, 0);
        kit.due("size", size, 14);
        kit.due("first", first, '[');
        kit.due("print", print, Kit.printOf("[\"null\",\"int\"]"));
        kit.due("keep(0)", x.keep(0), 1);
        put(x, "\"long\"");
        x.schema();
        x.keep(1);
        boolean isFit = x.fits(0, 1);
        boolean isMatch = x.matches(0, 1);
        kit.due("isFit", isFit, false);
        kit.due("isMatch", isMatch, true);
        kit.end();
    }

    static void put(SchemaReader x, String text) {
        x.end(0);
        for (int i = 0; i < text.length(); i += 20) {
            x.feed(four(text, i), four(text, i + 4), four(text, i + 8), four(text, i + 12), four(text, i + 16));
        }
        x.end(text.length());
    }

    static int four(String text, int from) {
        int number = 0;
        for (int i = from; i < from + 4; i++) {
            number = number << 8 | (i < text.length() ? text.charAt(i) & 255 : ' ');
        }
        return number;
    }
}
