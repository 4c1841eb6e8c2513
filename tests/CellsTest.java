/** Promises 14 to 21: addresses come to cells. */
final class CellsTest {
    public static void main(String[] args) {
        weaves();
        faults();
        weaveThrows();
        agains();
        copies();
        swaps();
        normalizes();
        relativizes();
        sorts();
        bests();
        wrongCells();
        Check.end("CellsTest");
    }

    private static void texts(Addressloom x, String... want) {
        for (int cell = 0; cell < want.length; cell++) {
            Check.due("text(" + cell + ")", x.text(cell), want[cell]);
        }
    }

    private static void weaves() {
        Addressloom x = new Addressloom();
        x.rooted(true);
        Check.due("weave(0) of an equal one", x.weave(0), 0);
        x.piece(6);
        Check.due("weave(0)", x.weave(0), 1);
        x.unpiece(1);
        x.piece(7);
        Check.due("weave(0) of an equal one of another text", x.weave(0), 0);
        texts(x, "/%4A", "/", "/", "/", "/", "/");
        Check.due("draft() stays", x.draft(), "/%4A");
        Check.due("weave(5)", x.weave(5), 1);
        Check.due("text(5)", x.text(5), "/%4A");
        Check.due("house(1)", x.house(1), 4);
    }

    private static void fault(int scheme, int authority, String path, int query, int fragment, boolean isFaulty) {
        Addressloom x = new Addressloom();
        Check.draft(x, scheme, authority, path, query, fragment);
        String drafted = x.draft();
        int told = x.weave(2);
        Check.due("weave(2) of " + drafted, told, isFaulty ? -9 : 1);
        Check.due("text(2)", x.text(2), isFaulty ? "/" : drafted);
        Check.due("faulty()", x.faulty(), isFaulty ? drafted : "");
        Check.due("house(1)", x.house(1), isFaulty ? 0 : 1);
        Check.due("house(2)", x.house(2), isFaulty ? 1 : 0);
        Check.due("house(3)", x.house(3), isFaulty ? 1 : 0);
        Check.due("draft() stays", x.draft(), drafted);
    }

    private static void faults() {
        for (int scheme = 0; scheme <= 5; scheme++) {
            fault(scheme, 0, "/a", 0, 0, scheme == 5);
        }
        for (int authority = 0; authority <= 12; authority++) {
            fault(0, authority, "/a", 0, 0, authority == 12);
        }
        for (int piece = 0; piece <= 12; piece++) {
            fault(0, 0, "/a/" + Check.Told.PIECES[piece] + "/b", 0, 0, piece >= 11);
            fault(3, 0, Check.Told.PIECES[piece], 0, 0, piece >= 11);
        }
        for (int query = 0; query <= 6; query++) {
            fault(0, 0, "a", query, 0, false);
            fault(1, 0, "", query, 2, query == 0);
        }
        for (int fragment = 0; fragment <= 5; fragment++) {
            fault(0, 0, "a", 0, fragment, false);
            fault(1, 0, "", 0, fragment, true);
        }
        fault(1, 7, "", 0, 0, false);
        fault(1, 0, "/", 0, 0, false);
        fault(1, 0, ".", 0, 0, false);
        fault(0, 12, "", 0, 0, true);
        fault(5, 0, "", 0, 0, true);
    }

    private static void weaveThrows() {
        Addressloom x = new Addressloom();
        Check.draft(x, 1, 1, "^", 0, 0);
        Check.dueThrowAndStay("weave(0) of one that is faulty and not let", Check.STATE, x, () -> x.weave(0));
        for (int cell : Check.NO_CELLS) {
            Check.dueThrowAndStay("weave of one that is not let", Check.INDEX, x, () -> x.weave(cell));
        }
        x.rooted(true);
        Check.dueThrowAndStay("weave(6) of a faulty one", Check.INDEX, x, () -> x.weave(6));
        Check.due("weave(0)", x.weave(0), -9);
        x.wipe();
        Check.dueThrowAndStay("weave(0) of an empty one", Check.STATE, x, () -> x.weave(0));
        Check.due("faulty() of the last one", x.faulty(), "http://a.b/^");
    }

    private static void agains() {
        Addressloom x = new Addressloom();
        Check.weave(x, 0, 2, 6, "/a/./b", 6, 3);
        Check.due("again(0, 1)", x.again(0, 1), 1);
        Check.due("again(0, 1) again", x.again(0, 1), 0);
        Check.due("text(1)", x.text(1), "HTTP://U@A.B/a/./b?a/../b#F");
        Check.due("userOf(1)", x.userOf(1), "U");
        Check.due("hostOf(1)", x.hostOf(1), "A.B");
        Check.due("pathOf(1)", x.pathOf(1), "/a/./b");
        Check.due("queryOf(1)", x.queryOf(1), "a/../b");
        Check.due("again(0, 0)", x.again(0, 0), 0);
        Check.weavePath(x, 2, "a/..");
        x.normalize(2, 2);
        Check.due("house(2)", x.house(2), 0);
        Check.due("again(2, 3) of an empty text", x.again(2, 3), -9);
        Check.due("again(2, 2) of an empty text", x.again(2, 2), -9);
        Check.due("text(3) stays", x.text(3), "/");
        Check.due("house(2)", x.house(2), 2);
        Check.due("house(1)", x.house(1), 6);
        Check.dueThrowAndStay("again(2, 6) of an empty text", Check.INDEX, x, () -> x.again(2, 6));
        Check.weave(x, 4, 0, 0, "", 0, 1);
        Check.due("again(4, 3) of \"#\"", x.again(4, 3), 1);
        Check.due("text(3)", x.text(3), "#");
    }

    private static void copies() {
        Addressloom x = new Addressloom();
        Check.weave(x, 0, 1, 1, "/a", 0, 0);
        Check.weave(x, 1, 2, 2, "/a", 0, 0);
        Check.due("copy(0, 1) of an equal one", x.copy(0, 1), 0);
        texts(x, "http://a.b/a", "http://a.b/a", "/");
        Check.due("copy(0, 2)", x.copy(0, 2), 1);
        Check.due("copy(0, 0)", x.copy(0, 0), 0);
        texts(x, "http://a.b/a", "http://a.b/a", "http://a.b/a", "/");
        Check.weavePath(x, 0, "b");
        Check.due("text(2) is its own", x.text(2), "http://a.b/a");
        Check.due("house(1)", x.house(1), 6);
    }

    private static void swaps() {
        Addressloom x = new Addressloom();
        Check.weave(x, 0, 1, 1, "/a", 0, 0);
        Check.weave(x, 1, 2, 2, "/a", 0, 0);
        Check.due("swap(0, 1) of equal ones", x.swap(0, 1), 0);
        texts(x, "HTTP://A.b/a", "http://a.b/a", "/");
        Check.due("swap(1, 5)", x.swap(1, 5), 1);
        texts(x, "HTTP://A.b/a", "/", "/", "/", "/", "http://a.b/a");
        Check.due("swap(5, 5)", x.swap(5, 5), 0);
        Check.due("house(1)", x.house(1), 5);
    }

    private static void normalizes() {
        Addressloom x = new Addressloom();
        Check.weave(x, 0, 1, 8, "/a/../b/.", 6, 2);
        Check.due("normalize(0, 1)", x.normalize(0, 1), 1);
        texts(x, "http://~a/a/../b/.?a/../b#f", "http://~a/b/?a/../b#f");
        Check.due("normalize(1, 1)", x.normalize(1, 1), 0);
        Check.due("normalize(0, 0)", x.normalize(0, 0), 1);
        Check.due("normalize(0, 1)", x.normalize(0, 1), 0);
        Check.weave(x, 2, 1, 0, "a/../b", 0, 0);
        Check.due("normalize(2, 3) of an opaque one", x.normalize(2, 3), 1);
        Check.due("text(3)", x.text(3), "http:a/../b");
        Check.due("house(1)", x.house(1), 7);
    }

    private static void relativizes() {
        Addressloom x = new Addressloom();
        Check.weave(x, 0, 1, 1, "/a/", 0, 0);
        Check.weave(x, 1, 1, 1, "/a/b", 2, 3);
        Check.due("relativize(0, 1, 2)", x.relativize(0, 1, 2), 1);
        Check.due("relativize(0, 1, 2) again", x.relativize(0, 1, 2), 0);
        Check.due("text(2)", x.text(2), "b?x=1#F");
        Check.due("schemeOf(2)", x.schemeOf(2), "-");
        Check.due("authorityOf(2)", x.authorityOf(2), "-");
        Check.due("pathOf(2)", x.pathOf(2), "b");
        Check.due("queryOf(2)", x.queryOf(2), "x=1");
        Check.due("fragmentOf(2)", x.fragmentOf(2), "F");
        Check.due("house(1)", x.house(1), 4);
        Check.due("relativize(1, 0, 3) that is left open", x.relativize(1, 0, 3), -9);
        Check.due("text(3) stays", x.text(3), "/");
        Check.due("house(1)", x.house(1), 4);
        Check.due("house(2)", x.house(2), 1);
        Check.due("relativize(0, 0, 0)", x.relativize(0, 0, 0), 1);
        Check.due("text(0)", x.text(0), "");
        Check.due("restOf(0)", x.restOf(0), "");
        Check.due("pathOf(0)", x.pathOf(0), "");
        Check.due("relativize(0, 1, 4) of another scheme", x.relativize(0, 1, 4), 1);
        Check.due("text(4)", x.text(4), "http://a.b/a/b?x=1#F");
        Check.dueThrowAndStay("relativize(1, 2, 6)", Check.INDEX, x, () -> x.relativize(1, 2, 6));
        Check.due("again(0, 1)", x.again(0, 1), -9);
    }

    private static Addressloom six() {
        Addressloom x = new Addressloom();
        Check.weave(x, 0, 2, 1, "", 0, 0);
        Check.weave(x, 1, 0, 0, "b", 0, 0);
        Check.weave(x, 2, 1, 2, "", 0, 0);
        Check.weave(x, 3, 0, 0, "a", 0, 0);
        Check.weave(x, 4, 2, 0, "a", 0, 0);
        Check.weave(x, 5, 1, 1, "", 0, 0);
        return x;
    }

    private static void sorts() {
        Addressloom x = six();
        Check.due("sort(false)", x.sort(false), 4);
        texts(x, "a", "b", "HTTP://a.b", "http://A.b", "http://a.b", "HTTP:a");
        Check.due("sort(false) again", x.sort(false), 0);
        texts(x, "a", "b", "HTTP://a.b", "http://A.b", "http://a.b", "HTTP:a");
        Check.due("sort(true)", x.sort(true), 4);
        texts(x, "HTTP:a", "HTTP://a.b", "http://A.b", "http://a.b", "b", "a");
        Check.due("sort(true) again", x.sort(true), 0);
        Check.due("house(1)", x.house(1), 10);
        Addressloom all = new Addressloom();
        Check.due("sort(true) of a new one", all.sort(true), 0);
        Check.due("sort(false) of a new one", all.sort(false), 0);
        Check.due("house(1)", all.house(1), 2);
    }

    private static void bests() {
        Addressloom x = six();
        Check.due("best(false, 1)", x.best(false, 1), 1);
        texts(x, "HTTP://a.b", "a", "http://A.b", "a", "HTTP:a", "http://a.b");
        Check.due("best(false, 3)", x.best(false, 3), 0);
        Check.due("best(true, 0)", x.best(true, 0), 1);
        texts(x, "HTTP:a", "a", "http://A.b", "a", "HTTP:a", "http://a.b");
        Addressloom y = new Addressloom();
        Check.weavePath(y, 2, "%4A");
        Check.weavePath(y, 4, "%4a");
        Check.due("best(false, 5) of equal ones", y.best(false, 5), 1);
        Check.due("text(5)", y.text(5), "%4A");
        Check.due("best(false, 4)", y.best(false, 4), 0);
        Check.due("text(4)", y.text(4), "%4A");
        Check.weavePath(y, 1, "b/%4a");
        Check.weavePath(y, 3, "b/%4A");
        Check.due("best(true, 0) of equal ones", y.best(true, 0), 1);
        Check.due("text(0)", y.text(0), "b/%4a");
        Check.due("house(1)", y.house(1), 7);
    }

    private static void wrongCells() {
        Addressloom x = six();
        for (int no : Check.NO_CELLS) {
            String at = " with " + no;
            Check.dueThrowAndStay("again" + at, Check.INDEX, x, () -> x.again(no, 0));
            Check.dueThrowAndStay("again into" + at, Check.INDEX, x, () -> x.again(0, no));
            Check.dueThrowAndStay("copy" + at, Check.INDEX, x, () -> x.copy(no, 0));
            Check.dueThrowAndStay("copy into" + at, Check.INDEX, x, () -> x.copy(0, no));
            Check.dueThrowAndStay("swap" + at, Check.INDEX, x, () -> x.swap(no, 0));
            Check.dueThrowAndStay("swap other" + at, Check.INDEX, x, () -> x.swap(0, no));
            Check.dueThrowAndStay("normalize" + at, Check.INDEX, x, () -> x.normalize(no, 0));
            Check.dueThrowAndStay("normalize into" + at, Check.INDEX, x, () -> x.normalize(0, no));
            Check.dueThrowAndStay("relativize" + at, Check.INDEX, x, () -> x.relativize(no, 0, 0));
            Check.dueThrowAndStay("relativize given" + at, Check.INDEX, x, () -> x.relativize(0, no, 0));
            Check.dueThrowAndStay("relativize into" + at, Check.INDEX, x, () -> x.relativize(0, 0, no));
            Check.dueThrowAndStay("best" + at, Check.INDEX, x, () -> x.best(true, no));
        }
    }
}
