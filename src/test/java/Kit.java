import java.nio.charset.StandardCharsets;

/** What the tests share: feeding texts, reading plain forms, counting answers that are not due. */
final class Kit {
    private final String name;
    private int asked = 0;
    private int wrong = 0;

    Kit(String name) {
        this.name = name;
    }

    /** A call that may throw. */
    interface Call {
        void run();
    }

    void due(String what, long got, long due) {
        due(what, Long.toString(got), Long.toString(due));
    }

    void due(String what, boolean got, boolean due) {
        due(what, Boolean.toString(got), Boolean.toString(due));
    }

    void due(String what, String got, String due) {
        asked++;
        if (!got.equals(due)) {
            wrong++;
            if (wrong <= 20) {
                System.out.println(name + ": " + what + " answered " + got + ", due is " + due);
            }
        }
    }

    void dueThrow(String what, Call call, Class<? extends RuntimeException> exception) {
        String got = "nothing";
        try {
            call.run();
        } catch (RuntimeException e) {
            got = e.getClass().getSimpleName();
        }
        due(what + " throws", got, exception == null ? "nothing" : exception.getSimpleName());
    }

    /** The text as a schema on a new object: its fault and the fault's place. */
    void dueFault(String text, int fault, int place) {
        dueFault(new SchemaReader(), text, fault, place);
    }

    void dueFault(SchemaReader x, String text, int fault, int place) {
        put(x, text);
        String shown = text.length() > 300 ? text.substring(0, 300) + ".." : text;
        due("schema() of " + shown, x.schema(), fault);
        due("place() of " + shown, x.place(), place);
        if (fault != 0) {
            due("size() after a fault in " + shown, x.size(), 0);
            due("print() after a fault in " + shown, x.print(), 0);
        }
    }

    /** The fault lies where the mark @ stands, which is not part of the text. */
    void dueFaultAt(String marked, int fault) {
        int at = marked.indexOf('@');
        dueFault(marked.substring(0, at) + marked.substring(at + 1), fault, at);
    }

    void dueGood(String text) {
        dueFault(text, 0, SchemaReader.NONE);
    }

    void duePlain(String text, String plain) {
        SchemaReader x = new SchemaReader();
        dueFault(x, text, 0, SchemaReader.NONE);
        due("size() of " + text, x.size(), plain.length());
        due("plain form of " + text, plainOf(text), plain);
    }

    /** Ends the test: exit code 1 if an answer was not due. */
    void end() {
        System.out.println(name + ": " + asked + " answers, " + wrong + " not as due");
        if (wrong != 0 || asked == 0) {
            System.exit(1);
        }
    }

    static void put(SchemaReader x, String text) {
        put(x, text.getBytes(StandardCharsets.ISO_8859_1));
    }

    /** The tape becomes these bytes; the last feed overlaps what is fed already where room lacks. */
    static void put(SchemaReader x, byte[] bytes) {
        if (bytes.length > 4096) {
            throw new AssertionError("no tape has " + bytes.length + " bytes");
        }
        x.end(0);
        int fed = 0;
        while (fed < bytes.length) {
            int from = Math.min(fed, 4096 - 20);
            // Cut only where it must be: an object has 512 calls, and a full tape takes 205 of them.
            if (from < fed) {
                x.end(from);
            }
            x.feed(four(bytes, from), four(bytes, from + 4), four(bytes, from + 8), four(bytes, from + 12),
                four(bytes, from + 16));
            fed = from + 20;
        }
        x.end(bytes.length);
    }

    private static int four(byte[] bytes, int from) {
        int number = 0;
        for (int i = from; i < from + 4; i++) {
            number = number << 8 | (i < bytes.length ? bytes[i] & 255 : 255);
        }
        return number;
    }

    /** The plain form of a text, read from as many objects as it takes with 512 calls to each. */
    static String plainOf(String text) {
        StringBuilder letters = new StringBuilder();
        int size = 1;
        while (letters.length() < size) {
            SchemaReader x = new SchemaReader();
            put(x, text);
            x.schema();
            size = x.size();
            int to = Math.min(size, letters.length() + 250);
            for (int i = letters.length(); i < to; i++) {
                letters.append((char) x.letter(i));
            }
        }
        return letters.toString();
    }

    /** The print of a plain form, told bit by bit. */
    static long printOf(String plain) {
        long start = 0xC15D213AA4D7A795L;
        long p = start;
        for (byte b : plain.getBytes(StandardCharsets.ISO_8859_1)) {
            p ^= b & 255;
            for (int i = 0; i < 8; i++) {
                p = (p & 1) == 0 ? p >>> 1 : p >>> 1 ^ start;
            }
        }
        return p;
    }

    static String plain(SchemaReader x) {
        StringBuilder letters = new StringBuilder();
        int size = x.size();
        for (int i = 0; i < size; i++) {
            letters.append((char) x.letter(i));
        }
        return letters.toString();
    }

    /** How many calls put, schema and what dueFault asks take. */
    static int callsFor(String text) {
        return 8 + text.length() / 20;
    }

    static void keep(SchemaReader x, int place, String text) {
        put(x, text);
        if (x.schema() != 0) {
            throw new AssertionError("not a schema: " + text);
        }
        x.keep(place);
    }

    /** Eight places filled with the texts, on a new object. */
    static SchemaReader keeping(String... texts) {
        SchemaReader x = new SchemaReader();
        for (int i = 0; i < texts.length; i++) {
            keep(x, i, texts[i]);
        }
        return x;
    }

    static String times(String part, String between, int n) {
        StringBuilder all = new StringBuilder();
        for (int i = 0; i < n; i++) {
            all.append(i == 0 ? "" : between).append(part.replace("#", Integer.toString(i)));
        }
        return all.toString();
    }
}
