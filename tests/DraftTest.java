/** Promises 1 to 13: a new object, and the draft. */
final class DraftTest {
    private static final int[] BEYOND = {-1, Integer.MIN_VALUE, Integer.MAX_VALUE};

    interface Setter {
        int set(Addressloom x, int which);
    }

    public static void main(String[] args) {
        aNewObject();
        numbers("scheme", 0, Check.Told.SCHEMES, "", ":", (x, which) -> x.scheme(which));
        numbers("authority", 1, Check.Told.AUTHORITIES, "//", "", (x, which) -> x.authority(which));
        numbers("query", 5, Check.Told.QUERIES, "?", "", (x, which) -> x.query(which));
        numbers("fragment", 6, Check.Told.FRAGMENTS, "#", "", (x, which) -> x.fragment(which));
        flags();
        pieces();
        unpieces();
        wipes();
        texts();
        lets();
        ofDraft();
        Check.end("DraftTest");
    }

    private static void aNewObject() {
        Addressloom x = new Addressloom();
        Check.due("draft() of a new one", x.draft(), "");
        for (int what = 0; what <= 6; what++) {
            Check.due("ofDraft(" + what + ") of a new one", x.ofDraft(what), 0);
        }
        for (int cell = 0; cell < 6; cell++) {
            Check.due("text(" + cell + ") of a new one", x.text(cell), "/");
        }
        for (int what = 0; what <= 4; what++) {
            Check.due("house(" + what + ") of a new one", x.house(what), 0);
        }
        Check.due("faulty() of a new one", x.faulty(), "");
        Check.due("isSound() of a new one", x.isSound(), true);
    }

    private static void numbers(String name, int what, String[] table, String ahead, String behind, Setter setter) {
        Addressloom x = new Addressloom();
        int before = 0;
        int acts = 0;
        for (int which = 0; which < table.length; which++) {
            Check.due(name + "(" + which + ")", setter.set(x, which), before);
            Check.due(name + "(" + which + ") again", setter.set(x, which), which);
            acts += 2;
            before = which;
            Check.due("ofDraft behind " + name, x.ofDraft(what), which);
            Check.due("draft() with " + name + " " + which, x.draft(),
                    table[which] == null ? "" : ahead + table[which] + behind);
            Check.due("house(0) behind " + name, x.house(0), acts);
        }
        for (int beyond : BEYOND) {
            Check.dueThrowAndStay(name + "(" + beyond + ")", Check.ARGUMENT, x, () -> setter.set(x, beyond));
        }
        Check.dueThrowAndStay(name + " one too far", Check.ARGUMENT, x, () -> setter.set(x, table.length));
        Check.due(name + "(0) at last", setter.set(x, 0), table.length - 1);
    }

    private static void flags() {
        Addressloom x = new Addressloom();
        Check.due("rooted(true)", x.rooted(true), false);
        Check.due("draft()", x.draft(), "/");
        Check.due("ended(true)", x.ended(true), false);
        Check.due("draft() ended without pieces", x.draft(), "/");
        x.piece(2);
        Check.due("draft()", x.draft(), "/a/");
        Check.due("rooted(false)", x.rooted(false), true);
        Check.due("rooted(false) again", x.rooted(false), false);
        Check.due("draft()", x.draft(), "a/");
        Check.due("ended(true) again", x.ended(true), true);
        Check.due("ended(false)", x.ended(false), true);
        Check.due("draft()", x.draft(), "a");
        Check.due("house(0)", x.house(0), 7);
    }

    private static void pieces() {
        for (int which = 0; which <= 12; which++) {
            Addressloom x = new Addressloom();
            Check.due("piece(" + which + ")", x.piece(which), 1);
            Check.due("draft()", x.draft(), Check.Told.PIECES[which]);
            Check.due("piece(" + which + ") twice", x.piece(which), 2);
            Check.due("draft()", x.draft(), Check.Told.PIECES[which] + "/" + Check.Told.PIECES[which]);
        }
        Addressloom x = new Addressloom();
        for (int many = 1; many <= 8; many++) {
            Check.due("piece(3)", x.piece(3), many);
        }
        Check.due("house(2)", x.house(2), 0);
        Check.due("piece(2) beyond 8", x.piece(2), -9);
        Check.due("piece(2) beyond 8 again", x.piece(2), -9);
        Check.due("draft() stays", x.draft(), "b/b/b/b/b/b/b/b");
        Check.due("house(0)", x.house(0), 8);
        Check.due("house(2)", x.house(2), 2);
        for (int beyond : new int[] {-1, 13, Integer.MIN_VALUE, Integer.MAX_VALUE}) {
            Check.dueThrowAndStay("piece(" + beyond + ") when full", Check.ARGUMENT, x, () -> x.piece(beyond));
        }
        x.unpiece(1);
        Check.due("piece(2) when there is room again", x.piece(2), 8);
        Check.due("draft()", x.draft(), "b/b/b/b/b/b/b/a");
    }

    private static void unpieces() {
        Addressloom x = new Addressloom();
        Check.due("unpiece(3) of none", x.unpiece(3), 0);
        for (int which = 2; which <= 6; which++) {
            x.piece(which);
        }
        Check.due("unpiece(0)", x.unpiece(0), 5);
        Check.due("unpiece(2)", x.unpiece(2), 3);
        Check.due("draft()", x.draft(), "a/b/A");
        Check.due("piece(5)", x.piece(5), 4);
        Check.due("draft()", x.draft(), "a/b/A/ab");
        for (int beyond : new int[] {-1, 9, Integer.MIN_VALUE, Integer.MAX_VALUE}) {
            Check.dueThrowAndStay("unpiece(" + beyond + ")", Check.ARGUMENT, x, () -> x.unpiece(beyond));
        }
        Check.due("unpiece(8)", x.unpiece(8), 0);
        Check.due("draft()", x.draft(), "");
        Check.due("house(0)", x.house(0), 10);
    }

    private static void wipes() {
        Addressloom x = new Addressloom();
        Check.draft(x, 1, 2, "/a/b/", 3, 4);
        x.weave(3);
        Check.due("wipe()", x.wipe(), 2);
        for (int what = 0; what <= 6; what++) {
            Check.due("ofDraft(" + what + ") behind wipe()", x.ofDraft(what), 0);
        }
        Check.due("wipe() again", x.wipe(), 0);
        Check.due("draft()", x.draft(), "");
        Check.due("text(3) stays", x.text(3), "http://A.b/a/b/?X=1#%4a");
        Check.due("house(0)", x.house(0), 11);
        Check.due("house(1)", x.house(1), 1);
    }

    private static void texts() {
        Addressloom x = new Addressloom();
        Check.draft(x, 1, 5, "/a/../d:e/", 6, 3);
        Check.due("draft()", x.draft(), "http://u@a.b/a/../d:e/?a/../b#F");
        Check.draft(x, 3, 0, "a", 1, 1);
        Check.due("draft()", x.draft(), "s:a?#");
        Check.draft(x, 0, 3, "a", 0, 0);
        Check.due("draft() of what is not let", x.draft(), "//a.b:8a");
        Check.draft(x, 5, 12, "/^/%g1", 2, 2);
        Check.due("draft() of what is faulty", x.draft(), "1a://a^b/^/%g1?x=1#f");
        Check.due("faulty() is that of weave() alone", x.faulty(), "");
        Check.due("weave(0)", x.weave(0), -9);
        Check.due("faulty()", x.faulty(), "1a://a^b/^/%g1?x=1#f");
    }

    private static void let(int scheme, int authority, String path, int query, int fragment, boolean want) {
        Addressloom x = new Addressloom();
        Check.draft(x, scheme, authority, path, query, fragment);
        Check.due("isLet() of " + x.draft(), x.isLet(), want);
        if (!want) {
            Check.dueThrowAndStay("weave(0) of " + x.draft(), Check.STATE, x, () -> x.weave(0));
        }
    }

    private static void lets() {
        let(0, 0, "", 0, 0, false);
        let(0, 0, "", 1, 0, true);
        let(0, 0, "", 0, 1, true);
        let(0, 0, "/", 0, 0, true);
        let(1, 0, "", 0, 0, true);
        let(5, 0, "", 0, 0, true);
        let(0, 1, "", 0, 0, true);
        let(0, 12, "", 0, 0, true);
        let(0, 1, "a", 0, 0, false);
        let(1, 1, "a", 0, 0, false);
        let(1, 8, "d:e", 0, 0, false);
        let(0, 1, "/a", 0, 0, true);
        let(0, 1, "/d:e", 0, 0, true);
        let(0, 0, "d:e", 0, 0, false);
        let(0, 0, "d:e/a/", 2, 2, false);
        let(1, 0, "d:e", 0, 0, true);
        let(0, 0, "/d:e", 0, 0, true);
        let(0, 0, "./d:e", 0, 0, true);
        let(0, 0, "a/d:e", 0, 0, true);
        let(0, 0, "^", 0, 0, true);
        Addressloom x = new Addressloom();
        x.ended(true);
        Check.due("isLet() of an ended one without pieces", x.isLet(), false);
        x.authority(1);
        Check.due("isLet() of an ended one with an authority", x.isLet(), true);
    }

    private static void ofDraft() {
        Addressloom x = new Addressloom();
        Check.draft(x, 4, 11, "/a/b/A/", 5, 3);
        int[] want = {4, 11, 1, 3, 1, 5, 3};
        for (int what = 0; what <= 6; what++) {
            Check.due("ofDraft(" + what + ")", x.ofDraft(what), want[what]);
        }
        x.rooted(false);
        Check.due("ofDraft(2)", x.ofDraft(2), 0);
        x.ended(false);
        Check.due("ofDraft(4)", x.ofDraft(4), 0);
        for (int beyond : new int[] {-1, 7, Integer.MIN_VALUE, Integer.MAX_VALUE}) {
            Check.dueThrowAndStay("ofDraft(" + beyond + ")", Check.ARGUMENT, x, () -> x.ofDraft(beyond));
        }
    }
}
