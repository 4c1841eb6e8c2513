/**
 * The boundary cases of sections 2 and 4 and of promises 22 to 36 (but for the cells' numbers, which are
 * CellNumbersTest's): a function for each sentence that names some.
 */
final class PartsEdgesTest {
    private static final String[] USERS = {"-", "-", "-", "-", "-", "u", "U", "-", "-", "-", "-", "-"};
    private static final String[] HOSTS = {"-", "a.b", "A.b", "a.b", "a.b", "a.b", "A.B", "c", "-", "-", "-", "-"};
    private static final int[] PORTS = {-1, -1, -1, 8, 80, -1, -1, -1, -1, -1, -1, -1};
    private static final String[] PATHS = {"", "/", "/d:e", "/./..", "/a/"};

    public static void main(String[] args) {
        opaqueOrRoofed();
        opaqueOnesHaveNoMore();
        roofedOnesHaveAPath();
        partsOfDrafts();
        noneIsNotEmpty();
        absoluteOnes();
        pointsGo();
        upPiecesGo();
        upPiecesStay();
        lastPieceWent();
        lastPieceStayed();
        noneLeft();
        colonInFirstPiece();
        noColonInFirstPiece();
        piecesLikeOthers();
        eightPieces();
        opaqueNormalForms();
        otherPartsOfNormalForms();
        normalByText();
        neverOther();
        Check.end("PartsEdgesTest");
    }

    private static String none(String part) {
        return part == null ? "-" : part;
    }

    private static Addressloom woven(String told) {
        Addressloom x = new Addressloom();
        Check.weave(x, 0, told);
        return x;
    }

    private static void opaque(String told, boolean want) {
        Addressloom x = woven(told);
        Check.due("isOpaque of " + x.text(0), x.isOpaque(0), want);
        Check.due("pathOf of " + x.text(0) + " is there", !x.pathOf(0).equals("-"), !want);
    }

    private static void opaqueOrRoofed() {
        Check.sentence("2: OPAQUE, if it has a SCHEME, and its REST does not begin with \"/\"");
        opaque("http - a/b - -", true);
        opaque("s -  x=1 -", true);
        opaque("s -   -", true);
        opaque("s -   ", true);
        opaque("s -  a/../b -", true);
        opaque("z+1.- - . - -", true);
        opaque("z+1.- - ./ - -", true);
        opaque("HTTP - d:e/a - f", true);
        opaque("s - / - -", false);
        opaque("s - /. x=1 -", false);
        opaque("s c  - -", false);
        opaque("s ~a  x=1 -", false);
        opaque("- - a/b - -", false);
        opaque("- -  x=1 -", false);
        opaque("- -  - ", false);
        opaque("- - / - -", false);
        opaque("- c  - -", false);
        Addressloom x = CellNumbersTest.six();
        Check.due("isOpaque of an empty one", x.isOpaque(2), false);
    }

    private static void opaqueOnesHaveNoMore() {
        Check.sentence("2: an OPAQUE one has SCHEME, REST and FRAGMENT alone");
        String[] paths = {"a", "a/b/", ".", "d:e", ".."};
        for (int scheme = 1; scheme <= 4; scheme++) {
            for (int query = 0; query <= 6; query++) {
                for (int fragment = 0; fragment <= 5; fragment++) {
                    for (String path : paths) {
                        Addressloom x = new Addressloom();
                        Check.weave(x, 0, scheme, 0, path, query, fragment);
                        String told = Check.Told.QUERIES[query];
                        opaqueParts(x, Check.Told.SCHEMES[scheme], path + (told == null ? "" : "?" + told),
                                none(Check.Told.FRAGMENTS[fragment]));
                    }
                }
            }
        }
    }

    private static void opaqueParts(Addressloom x, String scheme, String rest, String fragment) {
        String whole = scheme + ":" + rest + (fragment.equals("-") ? "" : "#" + fragment);
        Check.due("text", x.text(0), whole);
        Check.due("schemeOf " + whole, x.schemeOf(0), scheme);
        Check.due("restOf " + whole, x.restOf(0), rest);
        Check.due("fragmentOf " + whole, x.fragmentOf(0), fragment);
        Check.due("authorityOf " + whole, x.authorityOf(0), "-");
        Check.due("userOf " + whole, x.userOf(0), "-");
        Check.due("hostOf " + whole, x.hostOf(0), "-");
        Check.due("portOf " + whole, x.portOf(0), -1);
        Check.due("pathOf " + whole, x.pathOf(0), "-");
        Check.due("queryOf " + whole, x.queryOf(0), "-");
        Check.due("isOpaque " + whole, x.isOpaque(0), true);
        Check.due("isNormal " + whole, x.isNormal(0), true);
        Check.due("normalText " + whole, x.normalText(0), whole);
    }

    private static void roofedOnesHaveAPath() {
        Check.sentence("2: a ROOFED one has a PATH always (it may be empty)");
        String[] empty = {"- c  - -", "- ~%4a  - -", "- -   -", "- -  - ", "- -  a/../b %4A", "http u@a.b  - -",
            "s ~A  - -", "s a.b:80  x=1 f"};
        for (String told : empty) {
            Addressloom x = woven(told);
            Check.due("pathOf of " + x.text(0), x.pathOf(0), "");
            Check.due("isNormal of " + x.text(0), x.isNormal(0), true);
            Check.due("normalText of " + x.text(0), x.normalText(0), x.text(0));
        }
        Check.due("pathOf of an empty one", CellNumbersTest.six().pathOf(2), "");
        Check.due("pathOf of \"s:/\"", woven("s - / - -").pathOf(0), "/");
    }

    private static void partsOfDrafts() {
        Check.sentence("2: the parts that that one had; USER, PORT, HOST by the AUTHORITY");
        for (int scheme = 0; scheme <= 4; scheme++) {
            for (int authority = 0; authority <= 11; authority++) {
                for (String path : PATHS) {
                    for (int query = 0; query <= 6; query++) {
                        for (int fragment = 0; fragment <= 5; fragment++) {
                            partsOfDraft(scheme, authority, path, query, fragment);
                        }
                    }
                }
            }
        }
    }

    private static void partsOfDraft(int scheme, int authority, String path, int query, int fragment) {
        if (authority == 0 && path.isEmpty() && (scheme != 0 || query == 0 && fragment == 0)) {
            return;
        }
        Addressloom x = new Addressloom();
        Check.weave(x, 5, scheme, authority, path, query, fragment);
        String whole = x.draft();
        String rest = (authority == 0 ? "" : "//" + Check.Told.AUTHORITIES[authority]) + path
                + (query == 0 ? "" : "?" + Check.Told.QUERIES[query]);
        Check.due("text", x.text(5), whole);
        Check.due("schemeOf " + whole, x.schemeOf(5), none(Check.Told.SCHEMES[scheme]));
        Check.due("restOf " + whole, x.restOf(5), rest);
        Check.due("authorityOf " + whole, x.authorityOf(5), none(Check.Told.AUTHORITIES[authority]));
        Check.due("userOf " + whole, x.userOf(5), USERS[authority]);
        Check.due("hostOf " + whole, x.hostOf(5), HOSTS[authority]);
        Check.due("portOf " + whole, x.portOf(5), PORTS[authority]);
        Check.due("pathOf " + whole, x.pathOf(5), path);
        Check.due("queryOf " + whole, x.queryOf(5), none(Check.Told.QUERIES[query]));
        Check.due("fragmentOf " + whole, x.fragmentOf(5), none(Check.Told.FRAGMENTS[fragment]));
        Check.due("isAbsolute " + whole, x.isAbsolute(5), scheme != 0);
        Check.due("isOpaque " + whole, x.isOpaque(5), false);
    }

    private static void noneIsNotEmpty() {
        Check.sentence("2: a part that it has not is told as \"-\"; an empty one as \"\"");
        Addressloom x = woven("- - /a  ");
        Check.due("queryOf of \"/a?#\"", x.queryOf(0), "");
        Check.due("fragmentOf of \"/a?#\"", x.fragmentOf(0), "");
        Check.weave(x, 0, "- - /a - -");
        Check.due("queryOf of \"/a\"", x.queryOf(0), "-");
        Check.due("fragmentOf of \"/a\"", x.fragmentOf(0), "-");
        Check.weave(x, 0, "- -  - ");
        Check.due("restOf of \"#\"", x.restOf(0), "");
        Check.due("pathOf of \"#\"", x.pathOf(0), "");
        Check.due("queryOf of \"#\"", x.queryOf(0), "-");
        Check.due("fragmentOf of \"#\"", x.fragmentOf(0), "");
        Check.weave(x, 0, "s -   ");
        Check.due("restOf of \"s:?#\"", x.restOf(0), "?");
        Check.due("queryOf of \"s:?#\"", x.queryOf(0), "-");
        Check.due("fragmentOf of \"s:?#\"", x.fragmentOf(0), "");
        Check.weave(x, 0, "- - /a - -");
        Check.weave(x, 1, "- - /a x=1 -");
        x.relativize(0, 1, 2);
        x.relativize(0, 0, 3);
        Check.due("schemeOf of a relative one", x.schemeOf(2), "-");
        Check.due("authorityOf of a relative one", x.authorityOf(2), "-");
        Check.due("restOf of a relative one", x.restOf(2), "?x=1");
        Check.due("pathOf of a relative one", x.pathOf(2), "");
        Check.due("text of an empty one", x.text(3), "");
        Check.due("restOf of an empty one", x.restOf(3), "");
        Check.due("queryOf of an empty one", x.queryOf(3), "-");
        Check.due("fragmentOf of an empty one", x.fragmentOf(3), "-");
        Check.due("normalText of an empty one", x.normalText(3), "");
    }

    private static void absoluteOnes() {
        Check.sentence("2: ABSOLUTE, if it has a SCHEME");
        Check.due("isAbsolute of \"//c/a\"", woven("- c /a - -").isAbsolute(0), false);
        Check.due("isAbsolute of \"/d:e\"", woven("- - /d:e - -").isAbsolute(0), false);
        Check.due("isAbsolute of \"./d:e\"", woven("- - ./d:e - -").isAbsolute(0), false);
        Check.due("isAbsolute of \"//a.b:80\"", woven("- a.b:80  - -").isAbsolute(0), false);
        Check.due("isAbsolute of \"s:a\"", woven("s - a - -").isAbsolute(0), true);
        Check.due("isAbsolute of \"s://c\"", woven("s c  - -").isAbsolute(0), true);
        Check.due("isAbsolute of an empty one", CellNumbersTest.six().isAbsolute(2), false);
    }

    /** The normal form of a path, alone and with query and fragment, and with all parts if it begins with "/". */
    private static void normal(String path, String want) {
        normal("- - " + path + " - -", "", want, "", path.equals(want));
        normal("- - " + path + " a/../b ", "", want, "?a/../b#", path.equals(want));
        if (path.startsWith("/")) {
            normal("s - " + path + "  -", "s:", want, "?", path.equals(want));
            normal("HTTP U@A.B " + path + " - f", "HTTP://U@A.B", want, "#f", path.equals(want));
            normal("- ~%4A " + path + " %4A -", "//~%4A", want, "?%4A", path.equals(want));
        }
    }

    private static void normal(String told, String ahead, String path, String behind, boolean isNormal) {
        Addressloom x = woven(told);
        String of = " of " + x.text(0);
        Check.due("normalText" + of, x.normalText(0), ahead + path + behind);
        Check.due("isNormal" + of, x.isNormal(0), isNormal);
        x.normalize(0, 1);
        Check.due("text of the NORMAL FORM" + of, x.text(1), ahead + path + behind);
        Check.due("pathOf of the NORMAL FORM" + of, x.pathOf(1), path);
        Check.due("schemeOf of the NORMAL FORM" + of, x.schemeOf(1), x.schemeOf(0));
        Check.due("authorityOf of the NORMAL FORM" + of, x.authorityOf(1), x.authorityOf(0));
        Check.due("userOf of the NORMAL FORM" + of, x.userOf(1), x.userOf(0));
        Check.due("hostOf of the NORMAL FORM" + of, x.hostOf(1), x.hostOf(0));
        Check.due("portOf of the NORMAL FORM" + of, x.portOf(1), x.portOf(0));
        Check.due("queryOf of the NORMAL FORM" + of, x.queryOf(1), x.queryOf(0));
        Check.due("fragmentOf of the NORMAL FORM" + of, x.fragmentOf(1), x.fragmentOf(0));
        Check.due("isNormal of the NORMAL FORM" + of, x.isNormal(1), true);
        Check.due("isOpaque of the NORMAL FORM" + of, x.isOpaque(1), false);
        Check.due("areEqual of it and the NORMAL FORM" + of, x.areEqual(0, 1, 0), isNormal);
    }

    private static void pointsGo() {
        Check.sentence("4: (1) all PIECES \".\" go");
        normal("a/./b", "a/b");
        normal("./a", "a");
        normal("././././a", "a");
        normal("/./a/././b", "/a/b");
        normal("./../a", "../a");
        normal(".././../a", "../../a");
        normal("a/./../b", "b");
        normal("a/./.././b", "b");
    }

    private static void upPiecesGo() {
        Check.sentence("4: (2) as long as \"..\" stands directly behind one that is not \"..\", both go");
        normal("a/../b", "b");
        normal("/a/../b", "/b");
        normal("a/b/../../A", "A");
        normal("a/b/../A/../ab", "a/ab");
        normal("/a/b/A/../../../ab", "/ab");
        normal("/a/../b/../A/../ab", "/ab");
        normal("%4a/%4A/../a", "%4a/a");
    }

    private static void upPiecesStay() {
        Check.sentence("4: a PIECE \"..\" behind \"..\", or behind none, stays");
        normal("..", "..");
        normal("../a", "../a");
        normal("../../a", "../../a");
        normal("/..", "/..");
        normal("/../../a", "/../../a");
        normal("a/../../b", "../b");
        normal("/a/../../b", "/../b");
        normal("../a/../../b", "../../b");
        normal("a/../../../b", "../../b");
        normal("/../a/b/../../../A", "/../../A");
    }

    private static void lastPieceWent() {
        Check.sentence("4: if the last PIECE went, and others are left, it ends with \"/\" then");
        normal("a/.", "a/");
        normal("a/b/..", "a/");
        normal("../.", "../");
        normal("/a/.", "/a/");
        normal("/a/b/..", "/a/");
        normal("/../.", "/../");
        normal("a/./", "a/");
        normal("a/b/../", "a/");
        normal(".././", "../");
        normal("a/././.", "a/");
        normal("../a/..", "../");
        normal("../a/../", "../");
        normal("a/b/./..", "a/");
        normal("a/b/../.", "a/");
        normal("a/b/A/../..", "a/");
        normal("a/../../.", "../");
        normal("./d:e/.", "./d:e/");
        normal("./d:e/a/..", "./d:e/");
    }

    private static void lastPieceStayed() {
        Check.sentence("4: if the last one did not go, it ends with \"/\" just if it did");
        normal("./a", "a");
        normal("./a/", "a/");
        normal("a/../b", "b");
        normal("a/../b/", "b/");
        normal("/a", "/a");
        normal("/a/", "/a/");
        normal("../..", "../..");
        normal("../../", "../../");
        normal("a/../..", "..");
        normal("a/../../", "../");
        normal("/a/../..", "/..");
        normal("/a/../../", "/../");
        normal("./..", "..");
        normal("./../", "../");
    }

    private static void noneLeft() {
        Check.sentence("4: if none are left, it is \"/\", if it began with \"/\", otherwise empty");
        String[] gone = {".", "./", "./.", "././", "a/..", "a/../", "a/b/../..", "a/b/../../", "./a/..", "a/./../.",
            ".../..", "%2e/../", "./d:e/..", "./d:e/../", "a/../b/../A/../ab/.."};
        for (String path : gone) {
            normal(path, "");
            normal("/" + path, "/");
        }
        normal("/d:e/../a/../", "/");
        normal("/", "/");
    }

    private static void colonInFirstPiece() {
        Check.sentence("4: (3) if it does not begin with \"/\", and the first has a \":\", \"./\" comes ahead");
        normal("./d:e", "./d:e");
        normal("./d:e/", "./d:e/");
        normal("././d:e", "./d:e");
        normal("a/../d:e", "./d:e");
        normal("a/../d:e/", "./d:e/");
        normal("a/../d:e/.", "./d:e/");
        normal("a/b/../../d:e/d:e", "./d:e/d:e");
        normal("./d:e/../d:e/a", "./d:e/a");
        normal("a/.././d:e/b/..", "./d:e/");
    }

    private static void noColonInFirstPiece() {
        Check.sentence("4: (3) not if it begins with \"/\", or another PIECE has the \":\"");
        normal("/d:e", "/d:e");
        normal("/./d:e", "/d:e");
        normal("/a/../d:e", "/d:e");
        normal("/d:e/.", "/d:e/");
        normal("a/d:e", "a/d:e");
        normal("./a/d:e", "a/d:e");
        normal("../d:e", "../d:e");
        normal("a/../../d:e", "../d:e");
        normal("./../d:e", "../d:e");
        normal("/../d:e", "/../d:e");
        normal("./d:e/../a", "a");
    }

    private static void piecesLikeOthers() {
        Check.sentence("4: \"%2e\" and \"...\" are PIECES like others");
        normal("%2e", "%2e");
        normal("...", "...");
        normal("a/%2e", "a/%2e");
        normal("a/%2e/", "a/%2e/");
        normal("a/...", "a/...");
        normal("/%2e/a", "/%2e/a");
        normal("%2e/%2e/a", "%2e/%2e/a");
        normal("%2e/..", "");
        normal(".../..", "");
        normal(".../../a", "a");
        normal("a/.../..", "a/");
        normal("%2e/.", "%2e/");
        normal("..././...", ".../...");
        normal("../...", "../...");
    }

    private static void eightPieces() {
        Check.sentence("4: the NORMAL FORM of 8 PIECES");
        normal("./././././././.", "");
        normal("/./././././././.", "/");
        normal("../../../../../../../..", "../../../../../../../..");
        normal("/../../../../../../../../", "/../../../../../../../../");
        normal("a/b/A/ab/../../../..", "");
        normal("a/b/A/ab/../../../../", "");
        normal("a/b/A/../../../../..", "../..");
        normal("a/b/A/../../../../../", "../../");
        normal("/a/b/A/ab/%4a/%4A/d:e/..", "/a/b/A/ab/%4a/%4A/");
        normal("/a/b/A/ab/%4a/%4A/d:e/...", "/a/b/A/ab/%4a/%4A/d:e/...");
        normal("a/../a/../a/../a/..", "");
        normal("a/../a/../a/.././d:e", "./d:e");
    }

    private static void opaqueNormalForms() {
        Check.sentence("4: the NORMAL FORM of an OPAQUE ADDRESS is itself");
        String[] told = {"s - . - -", "s - a/.. - -", "HTTP - a/../ x=1 f", "s - ../a/. - ", "z+1.- - ./d:e  -",
            "http -  a/../b -"};
        for (String one : told) {
            Addressloom x = woven(one);
            Check.due("normalText of " + x.text(0), x.normalText(0), x.text(0));
            Check.due("isNormal of " + x.text(0), x.isNormal(0), true);
            Check.due("normalize(0, 1) of " + x.text(0), x.normalize(0, 1), 1);
            Check.due("text(1)", x.text(1), x.text(0));
            Check.due("isOpaque(1)", x.isOpaque(1), true);
            Check.due("restOf(1)", x.restOf(1), x.restOf(0));
            Check.due("areEqual(0, 1)", x.areEqual(0, 1, 0), true);
        }
    }

    private static void otherPartsOfNormalForms() {
        Check.sentence("4: it has all its parts, but another PATH");
        for (int authority = 0; authority <= 11; authority++) {
            String ahead = authority == 0 ? "" : "//" + Check.Told.AUTHORITIES[authority];
            normal("- " + (authority == 0 ? "-" : Check.Told.AUTHORITIES[authority]) + " /a/./../d:e/b/.. a/../b F",
                    ahead, "/d:e/", "?a/../b#F", false);
        }
        for (int query = 1; query <= 6; query++) {
            String told = Check.Told.QUERIES[query];
            normal("http c /./a " + told + " -", "http://c", "/a", "?" + told, false);
        }
        for (int fragment = 1; fragment <= 5; fragment++) {
            String told = Check.Told.FRAGMENTS[fragment];
            normal("- - ./a - " + told, "", "a", "#" + told, false);
        }
    }

    private static void normalByText() {
        Check.sentence("4: NORMAL, if its text is that of its NORMAL FORM");
        Check.due("isNormal of \"?a/../b\"", woven("- -  a/../b -").isNormal(0), true);
        Check.due("isNormal of \"/?a/../b\"", woven("- - / a/../b -").isNormal(0), true);
        Check.due("isNormal of \"./d:e\"", woven("- - ./d:e - -").isNormal(0), true);
        Check.due("isNormal of \"././d:e\"", woven("- - ././d:e - -").isNormal(0), false);
        Check.due("isNormal of \"./a\"", woven("- - ./a - -").isNormal(0), false);
        Check.due("isNormal of \"/.\"", woven("- - /. - -").isNormal(0), false);
        Check.due("isNormal of \"/..\"", woven("- - /.. - -").isNormal(0), true);
        Check.due("isNormal of \"/%2e\"", woven("- - /%2e - -").isNormal(0), true);
        Check.due("isNormal of an empty one", CellNumbersTest.six().isNormal(2), true);
    }

    private static void neverOther() {
        Check.sentence("promise 36: whether it is equal to that: never");
        for (int cell = 0; cell < 6; cell++) {
            for (int what = 0; what <= 2; what++) {
                int at = cell;
                int asked = what;
                Telling.answersAndStays("isOther(" + cell + ", " + what + ")", false, CellNumbersTest::six,
                        x -> x.isOther(at, asked));
            }
        }
    }
}
