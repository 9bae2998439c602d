/** Promise 8: the print of the plain form. */
final class PrintTest {
    private static final Kit KIT = new Kit("PrintTest");

    public static void main(String[] args) {
        // These stand in the tables of others who print schemas in the same way.
        known("\"int\"", 0x7275d51a3f395c8fL);
        known("\"null\"", 0x63dd24e7cc258f8aL);
        known("\"long\"", 0xd054e14493f41db7L);
        known("\"boolean\"", 0x9f42fc78a4d4f764L);
        known("\"bytes\"", 0x4fc016dac3201965L);
        known("\"string\"", 0x8f014872634503c7L);

        String[] texts = {
            " [ \"int\" ] ", "{\"type\":\"map\",\"values\":[\"null\",\"long\"]}",
            "{\"type\":\"fixed\",\"size\":64,\"name\":\"F\"}",
            "{\"type\":\"enum\",\"name\":\"E\",\"symbols\":[\"a\",\"b\"],\"default\":\"a\"}",
            "{\"type\":\"record\",\"name\":\"R\",\"fields\":[{\"name\":\"a\",\"type\":\"R\"}]}",
        };
        for (String text : texts) {
            known(text, -1);
        }
        SchemaReader x = new SchemaReader();
        KIT.due("print() of none", x.print(), 0);
        Kit.put(x, "\"int\"");
        x.schema();
        x.keep(7);
        KIT.due("print() behind keep", x.print(), 0);
        x.schema();
        Kit.put(x, "\"in\"");
        KIT.due("print() before the fault", x.print(), 0x7275d51a3f395c8fL);
        x.schema();
        KIT.due("print() behind a fault", x.print(), 0);
        KIT.end();
    }

    private static void known(String text, long due) {
        SchemaReader x = new SchemaReader();
        Kit.put(x, text);
        KIT.due("schema() of " + text, x.schema(), 0);
        KIT.due("print() of " + text, x.print(), Kit.printOf(Kit.plain(x)));
        KIT.due("print() again of " + text, x.print(), due == -1 ? Kit.printOf(Kit.plain(x)) : due);
    }
}
