/** The boundary cases of section 1 and of promises 1 to 13: a function for each sentence that names some. */
final class DraftEdgesTest {
    private static final int MIN = Integer.MIN_VALUE;
    private static final int MAX = Integer.MAX_VALUE;

    interface Setter {
        int set(Addressloom x, int which);
    }

    public static void main(String[] args) {
        emptyAtFirst();
        emptyWhenWiped();
        atMostEightPieces();
        refusedPieces();
        wrongPieceOfFullRow();
        pieceNumbers();
        noneAndNoSigns();
        endedWithoutPieces();
        rootedWithoutPieces();
        separators();
        notEmptyIsLet();
        authorityAndPieces();
        firstPieceWithColon();
        setterNumbers();
        flagsBefore();
        unpieceNumbers();
        unpieceMoreThanThere();
        wipedPieces();
        ofDraftNumbers();
        ofDraftFlags();
        wrongNumbersOfFullDraft();
        Check.end("DraftEdgesTest");
    }

    private static Addressloom withPieces(int many) {
        Addressloom x = new Addressloom();
        for (int i = 0; i < many; i++) {
            x.piece(2 + i);
        }
        return x;
    }

    private static Addressloom full() {
        Addressloom x = new Addressloom();
        Check.draft(x, "z+1.- ~%4A /../a/b/A/ab/%4a/%4A/d:e/ a/../b %4A");
        return x;
    }

    private static void zeros(Addressloom x) {
        for (int what = 0; what <= 6; what++) {
            Check.due("ofDraft(" + what + ")", x.ofDraft(what), 0);
        }
        Check.due("draft()", x.draft(), "");
        Check.due("isLet()", x.isLet(), false);
    }

    private static void emptyAtFirst() {
        Check.sentence("1: at first all these have the number 0, no PIECES, neither ROOTED nor ENDED");
        zeros(new Addressloom());
        Addressloom x = new Addressloom();
        Check.due("scheme(5) of a new one", x.scheme(5), 0);
        Check.due("authority(12) of a new one", x.authority(12), 0);
        Check.due("rooted(true) of a new one", x.rooted(true), false);
        Check.due("unpiece(8) of a new one", x.unpiece(8), 0);
        Check.due("ended(true) of a new one", x.ended(true), false);
        Check.due("query(6) of a new one", x.query(6), 0);
        Check.due("fragment(5) of a new one", x.fragment(5), 0);
        Check.due("wipe() of a new one", new Addressloom().wipe(), 0);
    }

    private static void emptyWhenWiped() {
        Check.sentence("1: so as it is wiped");
        Addressloom x = full();
        Check.due("wipe() of a full one", x.wipe(), 8);
        zeros(x);
        Check.due("piece(3) behind wipe()", x.piece(3), 1);
        Check.due("draft() behind it", x.draft(), "b");
        Check.due("ended(false) behind it", x.ended(false), false);
        Check.due("rooted(false) behind it", x.rooted(false), false);
        Check.due("wipe() of one piece", x.wipe(), 1);
        Check.due("wipe() of none", x.wipe(), 0);
        zeros(x);
    }

    private static void atMostEightPieces() {
        Check.sentence("1: a row of at most 8 PIECES");
        for (int which = 0; which <= 12; which++) {
            Addressloom x = withPieces(7);
            Check.due("piece(" + which + ") behind 7", x.piece(which), 8);
            String eight = "a/b/A/ab/%4a/%4A/d:e/" + Check.Told.PIECES[which];
            Check.due("draft()", x.draft(), eight);
            Check.due("house(2)", x.house(2), 0);
            Check.due("piece(2) behind 8", x.piece(2), -9);
            Check.due("draft()", x.draft(), eight);
            Check.due("ofDraft(3)", x.ofDraft(3), 8);
            Check.due("house(2)", x.house(2), 1);
            Check.due("house(0)", x.house(0), 8);
        }
    }

    private static void refusedPieces() {
        Check.sentence("promise 5: -9 if there are 8");
        for (int which = 0; which <= 12; which++) {
            int refused = which;
            Telling.refuses("piece(" + which + ") of a full row", DraftEdgesTest::full, x -> x.piece(refused));
        }
        Addressloom x = full();
        x.piece(12);
        x.piece(12);
        Check.due("unpiece(0) behind two that were refused", x.unpiece(0), 8);
        Check.due("unpiece(1)", x.unpiece(1), 7);
        Check.due("draft()", x.draft(), "z+1.-://~%4A/../a/b/A/ab/%4a/%4A/?a/../b#%4A");
        Check.due("piece(9) where there is room again", x.piece(9), 8);
        Check.due("draft()", x.draft(), "z+1.-://~%4A/../a/b/A/ab/%4a/%4A/.../?a/../b#%4A");
        Check.due("piece(9) of a full row", x.piece(9), -9);
        Check.due("house(2)", x.house(2), 3);
        x.unpiece(8);
        Check.due("piece(9) of an empty row", x.piece(9), 1);
    }

    private static void wrongPieceOfFullRow() {
        Check.sentence("6: exceptions go ahead of -9, promise 5");
        for (int beyond : new int[] {-1, 13, MIN, MAX}) {
            Telling.throwsAndStays("piece(" + beyond + ") of a full row", Check.ARGUMENT, DraftEdgesTest::full,
                    x -> x.piece(beyond));
        }
    }

    private static void pieceNumbers() {
        Check.sentence("promise 5: if which is not 0 to 12");
        for (int beyond : new int[] {-1, 13, 14, MIN, MAX}) {
            Telling.throwsAndStays("piece(" + beyond + ") of an empty row", Check.ARGUMENT, Addressloom::new,
                    x -> x.piece(beyond));
            Telling.throwsAndStays("piece(" + beyond + ") behind 7", Check.ARGUMENT, () -> withPieces(7),
                    x -> x.piece(beyond));
        }
        Addressloom x = new Addressloom();
        Check.due("piece(0)", x.piece(0), 1);
        Check.due("piece(12)", x.piece(12), 2);
        Check.due("draft()", x.draft(), "./%g1");
    }

    private static void noneAndNoSigns() {
        Check.sentence("1: 0 none, 1 \"\" (of no signs)");
        Addressloom x = new Addressloom();
        Check.due("draft() of neither", x.draft(), "");
        x.query(1);
        Check.due("draft() of a query of no signs", x.draft(), "?");
        x.fragment(1);
        Check.due("draft() of both of no signs", x.draft(), "?#");
        x.query(0);
        Check.due("draft() of a fragment of no signs", x.draft(), "#");
        x.scheme(3);
        Check.due("draft() with a scheme", x.draft(), "s:#");
        x.authority(7);
        Check.due("draft() with both", x.draft(), "s://c#");
        x.scheme(0);
        Check.due("draft() with an authority", x.draft(), "//c#");
    }

    private static void endedWithoutPieces() {
        Check.sentence("1: \"/\", if it is ENDED and has PIECES");
        Addressloom x = new Addressloom();
        x.ended(true);
        Check.due("draft() ended, of no pieces", x.draft(), "");
        Check.due("ofDraft(4)", x.ofDraft(4), 1);
        x.piece(0);
        Check.due("draft() ended, of one piece", x.draft(), "./");
        x.unpiece(1);
        Check.due("draft() ended, of none again", x.draft(), "");
        x.authority(1);
        x.query(1);
        Check.due("draft() ended, with an authority and a query", x.draft(), "//a.b?");
        x.rooted(true);
        Check.due("draft() ended and rooted", x.draft(), "//a.b/?");
        for (int i = 0; i < 8; i++) {
            x.piece(2);
        }
        Check.due("draft() ended, of 8", x.draft(), "//a.b/a/a/a/a/a/a/a/a/?");
        x.ended(false);
        Check.due("draft() of 8", x.draft(), "//a.b/a/a/a/a/a/a/a/a?");
    }

    private static void rootedWithoutPieces() {
        Check.sentence("1: \"/\", if it is ROOTED");
        Addressloom x = new Addressloom();
        x.rooted(true);
        Check.due("draft() rooted, of no pieces", x.draft(), "/");
        x.ended(true);
        Check.due("draft() rooted and ended, of no pieces", x.draft(), "/");
        x.piece(1);
        Check.due("draft() rooted and ended, of one", x.draft(), "/../");
        x.rooted(false);
        Check.due("draft() ended, of one", x.draft(), "../");
    }

    private static void separators() {
        Check.sentence("1: the PIECES in their sequence, with \"/\" between");
        String[] want = {"", "a", "a/b", "a/b/A", "a/b/A/ab", "a/b/A/ab/%4a", "a/b/A/ab/%4a/%4A",
            "a/b/A/ab/%4a/%4A/d:e", "a/b/A/ab/%4a/%4A/d:e/..."};
        for (int many = 0; many <= 8; many++) {
            Check.due("draft() of " + many, withPieces(many).draft(), want[many]);
            Check.due("ofDraft(3)", withPieces(many).ofDraft(3), many);
        }
    }

    private static void isLet(String told, boolean want) {
        Addressloom x = new Addressloom();
        Check.draft(x, told);
        Check.due("isLet() of " + x.draft(), x.isLet(), want);
        if (want) {
            Check.due("weave(0) throws nothing", x.weave(0) != 0, true);
        } else {
            Telling.throwsAndStays("weave(0) of " + x.draft(), Check.STATE, () -> {
                Addressloom y = new Addressloom();
                Check.draft(y, told);
                return y;
            }, y -> y.weave(0));
        }
    }

    private static void notEmptyIsLet() {
        Check.sentence("1: it is LET, if its text is not empty");
        isLet("- -  - -", false);
        isLet("s -  - -", true);
        isLet("1a -  - -", true);
        isLet("- c  - -", true);
        isLet("- - . - -", true);
        isLet("- -   -", true);
        isLet("- -  - ", true);
        Addressloom x = new Addressloom();
        x.ended(true);
        Check.due("isLet() of one that is ended alone", x.isLet(), false);
        Check.dueThrow("weave(0) of it", Check.STATE, () -> x.weave(0));
        x.rooted(true);
        Check.due("isLet() of \"/\", ended", x.isLet(), true);
        x.rooted(false);
        x.piece(2);
        x.unpiece(1);
        Check.due("isLet() of one whose only piece went", x.isLet(), false);
        x.piece(8);
        x.unpiece(1);
        x.query(1);
        Check.due("isLet() of one whose first piece \"d:e\" went", x.isLet(), true);
    }

    private static void authorityAndPieces() {
        Check.sentence("1: with an AUTHORITY and PIECES it has to be ROOTED");
        for (int authority = 1; authority <= 12; authority++) {
            String whole = Check.Told.AUTHORITIES[authority];
            isLet("- " + whole + " a - -", false);
            isLet("- " + whole + " a/ x=1 f", false);
            isLet("HTTP " + whole + " a - -", false);
            isLet("- " + whole + " /a - -", true);
            isLet("- " + whole + "  - -", true);
            isLet("- " + whole + " / - -", true);
        }
        isLet("1a c a - -", false);
        isLet("- - a - -", true);
        isLet("s - a - -", true);
        isLet("- c a/b/A/ab/%4a/%4A/../. - -", false);
        isLet("- c /a/b/A/ab/%4a/%4A/../. - -", true);
    }

    private static void firstPieceWithColon() {
        Check.sentence("1: if neither a SCHEME nor an AUTHORITY, and not ROOTED, its first PIECE may not be \"d:e\"");
        isLet("- - d:e - -", false);
        isLet("- - d:e/ - -", false);
        isLet("- - d:e/a - -", false);
        isLet("- - d:e x=1 f", false);
        isLet("- - a/d:e - -", true);
        isLet("- - ./d:e - -", true);
        isLet("- - a/b/A/ab/%4a/%4A/../d:e - -", true);
        isLet("s - d:e - -", true);
        isLet("1a - d:e - -", true);
        isLet("- - /d:e - -", true);
        isLet("- c /d:e - -", true);
        isLet("s c /d:e - -", true);
        isLet("- c d:e - -", false);
    }

    private static void setter(int promise, String name, int what, int last, Setter setter) {
        Check.sentence("promise " + promise + ": if which is not 0 to " + last);
        for (int beyond : new int[] {-1, last + 1, last + 2, MIN, MAX}) {
            Telling.throwsAndStays(name + "(" + beyond + ") of a new one", Check.ARGUMENT, Addressloom::new,
                    x -> setter.set(x, beyond));
            Telling.throwsAndStays(name + "(" + beyond + ") of a full one", Check.ARGUMENT, DraftEdgesTest::full,
                    x -> setter.set(x, beyond));
        }
        Check.sentence("promise " + promise + ": returns the number before");
        Addressloom x = new Addressloom();
        Check.due(name + "(0) of 0", setter.set(x, 0), 0);
        Check.due(name + "(" + last + ") of 0", setter.set(x, last), 0);
        Check.due(name + "(" + last + ") of the same", setter.set(x, last), last);
        Check.due("ofDraft(" + what + ")", x.ofDraft(what), last);
        Check.dueThrow(name + "(" + (last + 1) + ")", Check.ARGUMENT, () -> setter.set(x, last + 1));
        Check.due(name + "(0) of the last", setter.set(x, 0), last);
        Check.due("ofDraft(" + what + ")", x.ofDraft(what), 0);
        Check.due("house(0)", x.house(0), 4);
    }

    private static void setterNumbers() {
        setter(2, "scheme", 0, 5, Addressloom::scheme);
        setter(3, "authority", 1, 12, Addressloom::authority);
        setter(8, "query", 5, 6, Addressloom::query);
        setter(9, "fragment", 6, 5, Addressloom::fragment);
    }

    private static void flagsBefore() {
        Check.sentence("promises 4 and 7: returns whether it was");
        Addressloom x = new Addressloom();
        boolean[] flags = {false, true, true, false, false, true};
        boolean before = false;
        for (boolean flag : flags) {
            Check.due("rooted(" + flag + ")", x.rooted(flag), before);
            Check.due("ended(" + flag + ")", x.ended(flag), before);
            Check.due("ofDraft(2)", x.ofDraft(2), flag ? 1 : 0);
            Check.due("ofDraft(4)", x.ofDraft(4), flag ? 1 : 0);
            before = flag;
        }
        Check.due("house(0)", x.house(0), 12);
    }

    private static void unpieceNumbers() {
        Check.sentence("promise 6: if many is not 0 to 8");
        for (int beyond : new int[] {-1, 9, 10, MIN, MAX}) {
            Telling.throwsAndStays("unpiece(" + beyond + ") of an empty row", Check.ARGUMENT, Addressloom::new,
                    x -> x.unpiece(beyond));
            Telling.throwsAndStays("unpiece(" + beyond + ") of a full row", Check.ARGUMENT, DraftEdgesTest::full,
                    x -> x.unpiece(beyond));
        }
        Check.due("unpiece(0) of a full row", full().unpiece(0), 8);
        Check.due("unpiece(8) of a full row", full().unpiece(8), 0);
    }

    private static void unpieceMoreThanThere() {
        Check.sentence("promise 6: all, if there are not so many");
        for (int there = 0; there <= 8; there++) {
            for (int many = 0; many <= 8; many++) {
                Addressloom x = withPieces(there);
                int left = Math.max(0, there - many);
                Check.due("unpiece(" + many + ") of " + there, x.unpiece(many), left);
                Check.due("draft()", x.draft(), withPieces(left).draft());
                Check.due("ofDraft(3)", x.ofDraft(3), left);
                Check.due("house(0)", x.house(0), there + 1);
                Check.due("house(2)", x.house(2), 0);
                Check.due("piece(4) behind it", x.piece(4), left == 8 ? -9 : left + 1);
            }
        }
    }

    private static void wipedPieces() {
        Check.sentence("promise 10: returns how many PIECES it had");
        for (int many = 0; many <= 8; many++) {
            Addressloom x = withPieces(many);
            Check.due("wipe() of " + many, x.wipe(), many);
            Check.due("wipe() again", x.wipe(), 0);
            Check.due("house(0)", x.house(0), many + 2);
        }
        Addressloom x = full();
        x.piece(2);
        Check.due("wipe() of 8 and one that was refused", x.wipe(), 8);
    }

    private static void ofDraftNumbers() {
        Check.sentence("promise 13: if what is not 0 to 6");
        for (int beyond : new int[] {-1, 7, 8, MIN, MAX}) {
            Telling.throwsAndStays("ofDraft(" + beyond + ")", Check.ARGUMENT, DraftEdgesTest::full,
                    x -> x.ofDraft(beyond));
        }
        int[] want = {4, 11, 1, 8, 1, 6, 5};
        for (int what = 0; what <= 6; what++) {
            int asked = what;
            Telling.answersAndStays("ofDraft(" + what + ")", want[what], DraftEdgesTest::full,
                    x -> x.ofDraft(asked));
        }
    }

    private static void ofDraftFlags() {
        Check.sentence("promise 13: 2 1 if it is ROOTED, otherwise 0, 4 1 if it is ENDED, otherwise 0");
        Addressloom x = full();
        x.rooted(false);
        Check.due("ofDraft(2) of one that is ended alone", x.ofDraft(2), 0);
        Check.due("ofDraft(4) of one that is ended alone", x.ofDraft(4), 1);
        x.rooted(true);
        x.ended(false);
        Check.due("ofDraft(2) of one that is rooted alone", x.ofDraft(2), 1);
        Check.due("ofDraft(4) of one that is rooted alone", x.ofDraft(4), 0);
        x.ended(true);
        x.unpiece(8);
        Check.due("ofDraft(4) of one that is ended, of no pieces", x.ofDraft(4), 1);
    }

    private static void wrongNumbersOfFullDraft() {
        Check.sentence("6: a method that throws an exception changes nothing, promises 2 to 13");
        Addressloom x = full();
        Check.dueThrow("scheme(6)", Check.ARGUMENT, () -> x.scheme(6));
        Check.dueThrow("authority(13)", Check.ARGUMENT, () -> x.authority(13));
        Check.dueThrow("piece(13)", Check.ARGUMENT, () -> x.piece(13));
        Check.dueThrow("unpiece(9)", Check.ARGUMENT, () -> x.unpiece(9));
        Check.dueThrow("query(7)", Check.ARGUMENT, () -> x.query(7));
        Check.dueThrow("fragment(6)", Check.ARGUMENT, () -> x.fragment(6));
        Check.dueThrow("ofDraft(7)", Check.ARGUMENT, () -> x.ofDraft(7));
        Telling.same("seven calls that threw", Telling.of(x), Telling.of(full()));
    }
}
