/** Promise 9: keep. */
final class KeepTest {
    private static final Kit KIT = new Kit("KeepTest");

    public static void main(String[] args) {
        placesAreCounted();
        exceptionsAndTheirOrder();
        whatIsKeptStays();
        rowsAreNotMixedUp();
        KIT.end();
    }

    private static void placesAreCounted() {
        SchemaReader x = new SchemaReader();
        int[] places = {7, 0, 7, 3, 0, 1, 2, 4, 5, 6, 6, 0};
        int[] due = {1, 2, 2, 3, 3, 4, 5, 6, 7, 8, 8, 8};
        for (int i = 0; i < places.length; i++) {
            Kit.put(x, "\"int\"");
            x.schema();
            KIT.due("keep(" + places[i] + ")", x.keep(places[i]), due[i]);
        }
    }

    private static void exceptionsAndTheirOrder() {
        SchemaReader x = new SchemaReader();
        int[] noPlaces = {-1, 8, Integer.MIN_VALUE, Integer.MAX_VALUE};
        for (int place : noPlaces) {
            KIT.dueThrow("keep(" + place + ") of none", () -> x.keep(place), IndexOutOfBoundsException.class);
        }
        KIT.dueThrow("keep(0) of none", () -> x.keep(0), IllegalStateException.class);
        Kit.put(x, "\"int\"");
        x.schema();
        for (int place : noPlaces) {
            KIT.dueThrow("keep(" + place + ")", () -> x.keep(place), IndexOutOfBoundsException.class);
        }
        KIT.due("size() behind throws", x.size(), 5);
        KIT.due("keep(0)", x.keep(0), 1);
        KIT.dueThrow("keep(1) of what is kept", () -> x.keep(1), IllegalStateException.class);
        KIT.due("size()", x.size(), 0);
        KIT.due("schema() again", x.schema(), 0);
        KIT.due("keep(1)", x.keep(1), 2);
        Kit.put(x, "\"no\"");
        x.schema();
        KIT.dueThrow("keep(0) behind a fault", () -> x.keep(0), IllegalStateException.class);
        KIT.due("fits(0, 0) still", x.fits(0, 0), true);
    }

    private static void whatIsKeptStays() {
        SchemaReader x = Kit.keeping("\"int\"", "\"null\"");
        Kit.put(x, "\"null\"");
        KIT.due("schema()", x.schema(), 0);
        KIT.due("matches(0, 1) while another is the latest", x.matches(0, 1), false);
        x.keep(0);
        KIT.due("matches(0, 1) when it is kept instead", x.matches(0, 1), true);
        Kit.put(x, "[1]");
        x.schema();
        KIT.due("matches(0, 1) behind a fault", x.matches(0, 1), true);
    }

    private static void rowsAreNotMixedUp() {
        SchemaReader x = new SchemaReader();
        String big = "{\"type\":\"record\",\"name\":\"R\",\"fields\":[{\"name\":\"a\",\"type\":[\"null\",\"R\"],\"default\":null},"
            + "{\"name\":\"b\",\"type\":{\"type\":\"enum\",\"name\":\"E\",\"symbols\":[\"a\",\"b\"],\"default\":\"a\"}}]}";
        String small = "{\"type\":\"record\",\"name\":\"R\",\"fields\":[{\"name\":\"b\",\"type\":"
            + "{\"type\":\"enum\",\"name\":\"E\",\"symbols\":[\"c\"]}}]}";
        for (int i = 0; i < 3; i++) {
            Kit.keep(x, 0, big);
            Kit.keep(x, 1, small);
            KIT.due("fits(1, 0)", x.fits(1, 0), true);
            KIT.due("fits(0, 1)", x.fits(0, 1), false);
            Kit.keep(x, 0, small);
            Kit.keep(x, 1, big);
            KIT.due("fits(0, 1) turned round", x.fits(0, 1), true);
            KIT.due("fits(1, 0) turned round", x.fits(1, 0), false);
        }
    }
}
