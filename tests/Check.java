import java.util.Arrays;

/** What the tests share: answers held against those that are due, and drafts set in one call. */
final class Check {
    static final Class<IllegalArgumentException> ARGUMENT = IllegalArgumentException.class;
    static final Class<IndexOutOfBoundsException> INDEX = IndexOutOfBoundsException.class;
    static final Class<IllegalStateException> STATE = IllegalStateException.class;
    static final int[] NO_CELLS = {-1, 6, 7, Integer.MIN_VALUE, Integer.MAX_VALUE};

    private static int wrong = 0;
    private static int held = 0;
    /** What the document says that is tested just now; "" where a test names none. */
    private static String sentence = "";

    interface Call {
        Object make();
    }

    private Check() {
    }

    /** The answers from here on are held against this sentence of the document. */
    static void sentence(String told) {
        sentence = "[" + told + "] ";
    }

    static void due(String call, Object got, Object want) {
        held++;
        if (!want.equals(got)) {
            wrong++;
            System.out.println(sentence + call + " answered " + got + ", due is " + want);
        }
    }

    /** The exception has to be of the very class, so that none of the machine's own passes for it. */
    static void dueThrow(String call, Class<? extends RuntimeException> want, Call made) {
        Object got;
        try {
            got = made.make();
        } catch (RuntimeException e) {
            got = e.getClass();
        }
        due(call, got, want);
    }

    /** The call throws, and the whole object tells the same as before. */
    static void dueThrowAndStay(String call, Class<? extends RuntimeException> want, Addressloom x, Call made) {
        long before = x.digest();
        String faulty = x.faulty();
        dueThrow(call, want, made);
        due(call + ": digest() behind it", x.digest(), before);
        due(call + ": faulty() behind it", x.faulty(), faulty);
    }

    static void end(String test) {
        System.out.println(test + ": " + held + " answers, " + wrong + " of them not as due");
        if (wrong != 0) {
            System.exit(1);
        }
    }

    /** Sets the whole draft: scheme, authority, query and fragment by their numbers, the path as a text. */
    static void draft(Addressloom x, int scheme, int authority, String path, int query, int fragment) {
        x.wipe();
        x.scheme(scheme);
        x.authority(authority);
        x.query(query);
        x.fragment(fragment);
        x.rooted(path.startsWith("/"));
        String bare = path.startsWith("/") ? path.substring(1) : path;
        x.ended(!bare.isEmpty() && bare.endsWith("/"));
        if (!bare.isEmpty()) {
            for (String piece : bare.split("/")) {
                x.piece(Told.number(Told.PIECES, piece));
            }
        }
    }

    static void weave(Addressloom x, int cell, int scheme, int authority, String path, int query, int fragment) {
        draft(x, scheme, authority, path, query, fragment);
        if (x.weave(cell) == -9) {
            throw new IllegalStateException("a test wove what is faulty: " + x.draft());
        }
    }

    /** Weaves an address told as scheme, authority, path, query and fragment, parted by blanks; "-" is none. */
    static void weave(Addressloom x, int cell, String told) {
        draft(x, told);
        if (x.weave(cell) == -9) {
            throw new IllegalStateException("a test wove what is faulty: " + x.draft());
        }
    }

    /** Sets the whole draft, told in the same way. */
    static void draft(Addressloom x, String told) {
        String[] parts = told.split(" ", -1);
        draft(x, Told.part(Told.SCHEMES, parts[0]), Told.part(Told.AUTHORITIES, parts[1]), parts[2],
                Told.part(Told.QUERIES, parts[3]), Told.part(Told.FRAGMENTS, parts[4]));
    }

    static void weavePath(Addressloom x, int cell, String path) {
        weave(x, cell, 0, 0, path, 0, 0);
    }

    /** The document's tables, with null for none. */
    static final class Told {
        static final String[] SCHEMES = {null, "http", "HTTP", "s", "z+1.-", "1a"};
        static final String[] AUTHORITIES = {null, "a.b", "A.b", "a.b:8", "a.b:80", "u@a.b", "U@A.B", "c", "~a",
            "~A", "~%4a", "~%4A", "a^b"};
        static final String[] PIECES = {".", "..", "a", "b", "A", "ab", "%4a", "%4A", "d:e", "...", "%2e", "^",
            "%g1"};
        static final String[] QUERIES = {null, "", "x=1", "X=1", "%4a", "%4A", "a/../b"};
        static final String[] FRAGMENTS = {null, "", "f", "F", "%4a", "%4A"};

        private Told() {
        }

        static int part(String[] table, String part) {
            return number(table, part.equals("-") ? null : part);
        }

        static int number(String[] table, String text) {
            int number = Arrays.asList(table).indexOf(text);
            if (number < 0) {
                throw new IllegalArgumentException("no such text in the table: " + text);
            }
            return number;
        }
    }
}
