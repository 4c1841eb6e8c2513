/**
 * The boundary cases of sections 3 and 5 and of promises 37 to 43 (but for the cells' numbers, which are
 * CellNumbersTest's): a function for each sentence that names some.
 */
final class PairsEdgesTest {
    public static void main(String[] args) {
        plainly();
        noneAgainstSome();
        equalSchemes();
        equalFragments();
        equalRests();
        equalPathsAndQueries();
        equalAuthorities();
        orderOfSchemes();
        roofedAheadOfOpaque();
        orderOfOpaqueOnes();
        orderOfServers();
        orderOfOtherAuthorities();
        orderOfPathsQueriesFragments();
        noneStandsAhead();
        shorterStandsAhead();
        oneAndTheSameCell();
        refusedHashes();
        opaqueRelatives();
        otherSchemes();
        otherAuthorities();
        notNormalRelatives();
        samePaths();
        baseWithoutEnd();
        behindBase();
        plainlyBehindBase();
        notBehindBase();
        colonBehindBase();
        partsOfRelatives();
        openIsNotCounted();
        finds();
        likes();
        aheads();
        Check.end("PairsEdgesTest");
    }

    // ---- equal ones, order

    /** -1 if the first one stands ahead, 0 if they are EQUAL: all that is asked of two has to tell the same. */
    private static void pair(String one, String other, int order) {
        Addressloom x = new Addressloom();
        Check.weave(x, 0, one);
        Check.weave(x, 5, other);
        String both = " of " + x.text(0) + " and " + x.text(5);
        int like = x.like(0);
        for (int how = 0; how <= 1; how++) {
            Check.due("order, " + how + "," + both, x.order(0, 5, how), order);
            Check.due("order, " + how + ", the other way round" + both, x.order(5, 0, how), -order);
            Check.due("areEqual, " + how + "," + both, x.areEqual(0, 5, how), order == 0);
            Check.due("areEqual, " + how + ", the other way round" + both, x.areEqual(5, 0, how), order == 0);
        }
        Check.due("oneHash" + both, x.oneHash(0, 5), order == 0 ? 1 : -9);
        Check.due("oneHash, the other way round" + both, x.oneHash(5, 0), order == 0 ? 1 : -9);
        Check.due("find" + both, x.find(0, true), order == 0 ? 5 : like == 1 ? 0 : 4);
        Check.due("copy" + both, x.copy(0, 5), order == 0 ? 0 : 1);
        Check.due("isSound" + both, x.isSound(), true);
    }

    private static void plainly() {
        Check.sentence("3: PLAINLY: the two signs behind each \"%\" without regard to great and small letters");
        pair("- - %4a - -", "- - %4A - -", 0);
        pair("- - %4a/%4A/%4a - -", "- - %4A/%4a/%4A - -", 0);
        pair("- - A - -", "- - a - -", -1);
        pair("- - %4a/A - -", "- - %4A/a - -", -1);
        pair("- - %4A/A - -", "- - %4a/a - -", -1);
        pair("- - A/%4a - -", "- - a/%4A - -", -1);
        pair("- - %2e - -", "- - %4A - -", -1);
        pair("- - a X=1 -", "- - a x=1 -", -1);
    }

    private static void noneAgainstSome() {
        Check.sentence("3: what one has and the other one has not is never the same; what both have not is");
        pair("- - /a - -", "- - /a  -", -1);
        pair("- - /a - -", "- - /a - ", -1);
        pair("- - /a - ", "- - /a  -", -1);
        pair("- - /a - -", "s - /a - -", -1);
        pair("- - /a - -", "- c /a - -", -1);
        pair("- c /a - -", "- u@a.b /a - -", -1);
        pair("- - /a - -", "- - /a - -", 0);
        pair("- - /a  ", "- - /a  ", 0);
        pair("s - a - -", "s - a - ", -1);
        pair("s - a - -", "s - a  -", -1);
        pair("s - a - ", "s - a - ", 0);
    }

    private static void equalSchemes() {
        Check.sentence("3: EQUAL: the SCHEMES are BROADLY the same");
        pair("http - /a - -", "HTTP - /a - -", 0);
        pair("HTTP - /a - -", "http - /a - -", 0);
        pair("http - a - -", "HTTP - a - -", 0);
        pair("http u@a.b /a x=1 f", "HTTP u@a.b /a x=1 f", 0);
        pair("http - /a - -", "s - /a - -", -1);
        pair("s - a - -", "z+1.- - a - -", -1);
    }

    private static void equalFragments() {
        Check.sentence("3: EQUAL: the FRAGMENTS PLAINLY");
        pair("- - a - %4a", "- - a - %4A", 0);
        pair("s - a - %4A", "s - a - %4a", 0);
        pair("- - a - F", "- - a - f", -1);
        pair("s - a - F", "s - a - f", -1);
        pair("s - a - -", "s - a - ", -1);
        pair("s - a - ", "s - a - f", -1);
    }

    private static void equalRests() {
        Check.sentence("3: EQUAL: of OPAQUE ones the RESTS PLAINLY");
        pair("s - %4a %4a -", "s - %4A %4A -", 0);
        pair("s - %4a %4A -", "s - %4A %4a -", 0);
        pair("s -  %4a -", "s -  %4A -", 0);
        pair("s - A - -", "s - a - -", -1);
        pair("s - a X=1 -", "s - a x=1 -", -1);
        pair("s - a - -", "s - a/ - -", -1);
        pair("s - a - -", "s - a  -", -1);
        pair("s - . - -", "s - ./. - -", -1);
    }

    private static void equalPathsAndQueries() {
        Check.sentence("3: EQUAL: of ROOFED ones PATHS and QUERIES PLAINLY");
        pair("- c /%4a/%4A %4a -", "- c /%4A/%4a %4A -", 0);
        pair("- - a - -", "- - a/ - -", -1);
        pair("- - /a - -", "- - a - -", -1);
        pair("- - /./a - -", "- - /a - -", -1);
        pair("- -   -", "- - /  -", -1);
        pair("- - a  -", "- - a x=1 -", -1);
        pair("- - a %4a -", "- - a X=1 -", -1);
    }

    private static void equalAuthorities() {
        Check.sentence("3: EQUAL: USERS PLAINLY, HOSTS BROADLY, PORTS the same; or no SERVER ones, PLAINLY");
        pair("- a.b /a - -", "- A.b /a - -", 0);
        pair("- u@a.b /a - -", "- u@a.b /a - -", 0);
        pair("- U@A.B /a - -", "- U@A.B /a - -", 0);
        pair("- U@A.B /a - -", "- u@a.b /a - -", -1);
        pair("- A.b /a - -", "- U@A.B /a - -", -1);
        pair("- a.b /a - -", "- a.b:8 /a - -", -1);
        pair("- A.b /a - -", "- a.b:80 /a - -", -1);
        pair("- a.b:8 /a - -", "- a.b:80 /a - -", -1);
        pair("- a.b /a - -", "- c /a - -", -1);
        pair("- ~%4a /a - -", "- ~%4A /a - -", 0);
        pair("- ~A /a - -", "- ~a /a - -", -1);
        pair("- ~%4A /a - -", "- ~A /a - -", -1);
        pair("- c /a - -", "- ~a /a - -", -1);
        pair("- - /a - -", "- ~a /a - -", -1);
        pair("- - /a - -", "- a.b /a - -", -1);
    }

    private static void orderOfSchemes() {
        Check.sentence("3: ORDER: the SCHEMES first (by small letters)");
        String[] rising = {"-", "http", "s", "z+1.-"};
        for (int one = 0; one < rising.length; one++) {
            for (int other = one + 1; other < rising.length; other++) {
                pair(rising[one] + " ~a /b x=1 f", rising[other] + " c  - -", -1);
                pair(rising[one] + " - /b - -", rising[other] + " - . - -", -1);
                if (one > 0) {
                    pair(rising[one] + " - b - f", rising[other] + " - / - -", -1);
                    pair(rising[one] + " - b - f", rising[other] + " - . - -", -1);
                }
            }
        }
        pair("HTTP c /a - -", "http c /b - -", -1);
        pair("http c /a - -", "HTTP c /b - -", -1);
        pair("HTTP - b - -", "s - a - -", -1);
    }

    private static void roofedAheadOfOpaque() {
        Check.sentence("3: ORDER: a ROOFED one ahead of an OPAQUE one");
        pair("s ~a /b x=1 f", "s - . - -", -1);
        pair("s - /b x=1 f", "s - . - -", -1);
        pair("s - / - -", "s -   -", -1);
        pair("http - /b - f", "HTTP - %2e - -", -1);
        pair("HTTP - /b - f", "http - %2e - -", -1);
    }

    private static void orderOfOpaqueOnes() {
        Check.sentence("3: ORDER: of OPAQUE ones the RESTS, then the FRAGMENTS");
        pair("s - A - f", "s - a - -", -1);
        pair("s -  x=1 f", "s - A - -", -1);
        pair("s - %4a - f", "s - . - -", -1);
        pair("s - %4A - -", "s - %4a - ", -1);
        pair("s - %4a - F", "s - %4A - f", -1);
        pair("s - a/b - f", "s - a  -", -1);
    }

    private static void orderOfServers() {
        Check.sentence("3: ORDER: if both have a SERVER AUTHORITY, the USERS, the HOSTS, the PORTS");
        String[][] rising = {{"a.b", "A.b"}, {"a.b:8"}, {"a.b:80"}, {"c"}, {"U@A.B"}, {"u@a.b"}};
        for (int one = 0; one < rising.length; one++) {
            for (int other = one + 1; other < rising.length; other++) {
                for (String first : rising[one]) {
                    for (String second : rising[other]) {
                        pair("- " + first + " /b x=1 f", "- " + second + "  - -", -1);
                        pair("s " + first + " /b x=1 f", "s " + second + " /b x=1 f", -1);
                    }
                }
            }
        }
        pair("- a.b /a - -", "- A.b /b - -", -1);
        pair("- A.b /a - -", "- a.b /b - -", -1);
    }

    private static void orderOfOtherAuthorities() {
        Check.sentence("3: ORDER: otherwise the whole AUTHORITIES");
        String[] others = {"~%4a", "~A", "~a"};
        String[] servers = {"a.b", "A.b", "a.b:8", "a.b:80", "u@a.b", "U@A.B", "c"};
        for (int one = 0; one < others.length; one++) {
            for (int other = one + 1; other < others.length; other++) {
                pair("- " + others[one] + " /b x=1 f", "- " + others[other] + "  - -", -1);
            }
            for (String server : servers) {
                pair("- " + server + " /b x=1 f", "- " + others[one] + "  - -", -1);
            }
        }
        pair("- ~%4A /a - -", "- ~%4a /b - -", -1);
        pair("- ~%4a /a - -", "- ~%4A /b - -", -1);
        pair("- ~%4A /b - -", "- ~A /a - -", -1);
        for (String server : servers) {
            pair("- - /b x=1 f", "- " + server + "  - -", -1);
        }
        pair("- - /b x=1 f", "- ~%4A  - -", -1);
    }

    private static void orderOfPathsQueriesFragments() {
        Check.sentence("3: ORDER: then PATHS, QUERIES, FRAGMENTS");
        pair("- c /a x=1 f", "- c /b - -", -1);
        pair("- - a x=1 f", "- - b - -", -1);
        pair("- - a X=1 f", "- - a x=1 -", -1);
        pair("- - a  f", "- - a %4a -", -1);
        pair("- - a x=1 F", "- - a x=1 f", -1);
        pair("- - %4A X=1 f", "- - %4a x=1 F", -1);
        pair("- - %4a %4A F", "- - %4A %4a f", -1);
        pair("- ~%4a /%4A %4a F", "- ~%4A /%4a %4A f", -1);
    }

    private static void noneStandsAhead() {
        Check.sentence("3: where one has none, it stands ahead");
        pair("- - /a - f", "- - /a  -", -1);
        pair("- - /a - -", "- - /a - ", -1);
        pair("- - b - -", "- ~%4a  - -", -1);
        pair("- c /b - -", "- U@A.B /a - -", -1);
        pair("- a.b /b - -", "- a.b:8 /a - -", -1);
        pair("- - b - -", "http - / - -", -1);
    }

    private static void shorterStandsAhead() {
        Check.sentence("3: if there is none, the shorter one stands ahead");
        pair("- - a - -", "- - ab - -", -1);
        pair("- - a - -", "- - a/a - -", -1);
        pair("- - %4a - -", "- - %4A/ - -", -1);
        pair("- - %4A - -", "- - %4a/a - -", -1);
        pair("s - . - -", "s - .. - -", -1);
        pair("- - a  -", "- - a x=1 -", -1);
        pair("- - a - ", "- - a - f", -1);
        pair("- -  x=1 -", "- - . - -", -1);
        pair("- - a/b - -", "- - ab - -", -1);
    }

    private static void oneAndTheSameCell() {
        Check.sentence("promises 37 to 40: cells that are one and the same");
        String[] byItself = {"-", "s:?a/../b#", "", "", "?", "#%4A"};
        for (int cell = 0; cell < 6; cell++) {
            int at = cell;
            String both = "(" + cell + ", " + cell;
            for (int by = 0; by <= 1; by++) {
                int how = by;
                Telling.answersAndStays("areEqual" + both + ", " + how + ")", true, CellNumbersTest::six,
                        x -> x.areEqual(at, at, how));
                Telling.answersAndStays("order" + both + ", " + how + ")", 0, CellNumbersTest::six,
                        x -> x.order(at, at, how));
            }
            Telling.answersAndStays("oneHash" + both + ")", 1, CellNumbersTest::six, x -> x.oneHash(at, at));
            Telling.answersAndStays("relativeText" + both + ")", byItself[cell], CellNumbersTest::six,
                    x -> x.relativeText(at, at));
        }
    }

    private static void refusedHashes() {
        Check.sentence("promise 40: -9 if they are not EQUAL; nothing is changed then, but that it is counted");
        for (int one = 0; one < 6; one++) {
            int first = one;
            int second = (one + 1) % 6;
            Telling.refuses("oneHash(" + first + ", " + second + ")", CellNumbersTest::six,
                    x -> x.oneHash(first, second));
        }
        Check.sentence("6: exceptions go ahead of -9, promise 40");
        for (int beyond : Check.NO_CELLS) {
            Telling.throwsAndStays("oneHash(0, " + beyond + ")", Check.INDEX, CellNumbersTest::six,
                    x -> x.oneHash(0, beyond));
            Telling.throwsAndStays("oneHash(" + beyond + ", 0)", Check.INDEX, CellNumbersTest::six,
                    x -> x.oneHash(beyond, 0));
        }
    }

    // ---- relative ones

    /** What is due is a text, "-" if it is LEFT OPEN, or "=" if it is the given one. */
    private static void relative(String base, String given, String due) {
        Addressloom x = new Addressloom();
        Check.weave(x, 0, base);
        Check.weave(x, 5, given);
        String call = " of " + x.text(5) + " by " + x.text(0);
        String want = due.equals("=") ? x.text(5) : due;
        Check.due("relativeText" + call, x.relativeText(0, 5), want);
        Check.due("relativize" + call, x.relativize(0, 5, 2), want.equals("-") ? -9 : want.equals("/") ? 0 : 1);
        Check.due("text(2), the relative" + call, x.text(2), want.equals("-") ? "/" : want);
        if (due.equals("=")) {
            Check.due("areEqual, it and the relative" + call, x.areEqual(2, 5, 0), true);
        }
        Check.due("house(2) behind the relative" + call, x.house(2), want.equals("-") ? 1 : 0);
        Check.due("relativeText again" + call, x.relativeText(0, 5), want);
    }

    private static void opaqueRelatives() {
        Check.sentence("5: if one of them is OPAQUE, or both are, it is the given one");
        relative("s - a - -", "s - a - -", "=");
        relative("s - a/ - -", "s - a/b - -", "=");
        relative("s - a - -", "s - /a - -", "=");
        relative("s - /a/ - -", "s - a - -", "=");
        relative("http - a - -", "HTTP - /a/. - -", "=");
        relative("http - /a/. - -", "HTTP - a - -", "=");
        relative("http - a - -", "HTTP - a - -", "=");
        relative("s - a - -", "- - /a - -", "=");
        relative("- - /a/ - -", "s - a - -", "=");
        relative("s -   -", "s -  x=1 -", "=");
    }

    private static void otherSchemes() {
        Check.sentence("5: if the SCHEMES are not BROADLY the same, it is the given one");
        relative("s - /a/ - -", "http - /a/b - -", "=");
        relative("- - /a/ - -", "http - /a/b - -", "=");
        relative("http - /a/ - -", "- - /a/b - -", "=");
        relative("s u@a.b /a/ - -", "http U@A.B /a/b - -", "=");
        relative("s c /a/. - -", "- c /a/.. - -", "=");
        relative("- - /a - -", "s - /a - -", "=");
        Check.sentence("5: if these are BROADLY the same, but not sign by sign, it is LEFT OPEN");
        relative("http - /a/ - -", "HTTP - /a/b - -", "-");
        relative("HTTP - /a/ - -", "http - /a/b - -", "-");
        relative("http c /a/ - -", "HTTP a.b /a/b - -", "-");
        relative("http - /a - -", "HTTP - /a - -", "-");
        relative("http - /a/ - -", "HTTP c /b - -", "-");
        relative("HTTP - /a/ - -", "HTTP - /a/b - -", "b");
    }

    private static void otherAuthorities() {
        Check.sentence("5: AUTHORITIES: if both have one, and they are BROADLY the same, it is LEFT OPEN");
        String[][] broadly = {{"a.b", "A.b"}, {"u@a.b", "U@A.B"}, {"~a", "~A"}, {"~%4a", "~%4A"}};
        for (String[] two : broadly) {
            for (String path : new String[] {"/a/", "/a/b", "/b", ""}) {
                relative("- " + two[0] + " /a/ - -", "- " + two[1] + " " + path + " - -", "-");
                relative("s " + two[1] + " /a/ - -", "s " + two[0] + " " + path + " - -", "-");
            }
            relative("- " + two[0] + " /a/. - -", "- " + two[1] + " /b - -", "-");
            relative("- " + two[0] + " /a/ - -", "- " + two[0] + " /a/b - -", "b");
            relative("- " + two[1] + " /a/ - -", "- " + two[1] + " /a/b - -", "b");
        }
        Check.sentence("5: AUTHORITIES that are not the same: otherwise it is the given one");
        relative("- a.b /a/ - -", "- a.b:8 /a/b - -", "=");
        relative("- a.b /a/ - -", "- u@a.b /a/b - -", "=");
        relative("- a.b:8 /a/ - -", "- a.b:80 /a/b - -", "=");
        relative("- ~a /a/ - -", "- ~%4a /a/b - -", "=");
        relative("- c /a/ - -", "- ~a /a/b - -", "=");
        relative("- - /a/ - -", "- c /a/b - -", "=");
        relative("- c /a/ - -", "- - /a/b - -", "=");
        relative("- - /a - -", "- c /a - -", "=");
        relative("s c /a/. - -", "s a.b /b/.. - -", "=");
        relative("- c /a - -", "- - a/.. - -", "=");
    }

    private static void notNormalRelatives() {
        Check.sentence("5: if the base or the given one (or both) is not NORMAL, it is LEFT OPEN");
        relative("- - /a/. - -", "- - /a/b - -", "-");
        relative("- - /a/./ - -", "- - /a/b - -", "-");
        relative("- - /a/./ - -", "- - /b - -", "-");
        relative("- - a/../ - -", "- - b - -", "-");
        relative("s c /./ - -", "s c  - -", "-");
        relative("- - /a/./ - -", "- - /a/./b - -", "-");
        relative("- - /a/ - -", "- - /a/./b - -", "-");
        relative("- - /a/ - -", "- - /b/. - -", "-");
        relative("- - /a/ - -", "- - ./b - -", "-");
        relative("- - /a/ - -", "- - /a/b/. - -", "-");
        relative("- - /a/ - -", "- - /b/.. - -", "-");
        relative("- - /a/../ - -", "- - /b/../ - -", "-");
        relative("- - ./ - -", "- - ./a - -", "-");
        Check.sentence("5: if one is not NORMAL, also if the PATHS are the same");
        relative("- - /a/. - -", "- - /a/. - -", "-");
        relative("- - a/.. - -", "- - a/.. x=1 -", "-");
        relative("s c /./ - -", "s c /./ - -", "-");
        relative("- - ././d:e/ - -", "- - ././d:e/ - -", "-");
    }

    private static void samePaths() {
        Check.sentence("5: if the PATHS are the same, sign by sign, what lies behind is \"\"");
        relative("- - / - -", "- - / - -", "");
        relative("- - /a - -", "- - /a - -", "");
        relative("- - /a/ - -", "- - /a/ - -", "");
        relative("- - a - -", "- - a - -", "");
        relative("- - /d:e - -", "- - /d:e - -", "");
        relative("- - ./d:e - -", "- - ./d:e - -", "");
        relative("- - a/d:e - -", "- - a/d:e - -", "");
        relative("- - .. - -", "- - .. - -", "");
        relative("http c  - -", "http c  - -", "");
        relative("http c  x=1 f", "http c   ", "?#");
        relative("- c /a x=1 f", "- c /a - -", "");
        relative("- c /a - -", "- c /a x=1 f", "?x=1#f");
        relative("- -   -", "- -  - f", "#f");
        relative("- -  - f", "- -  a/../b -", "?a/../b");
    }

    private static void baseWithoutEnd() {
        Check.sentence("5: otherwise, if the base's PATH does not end with \"/\", it is LEFT OPEN");
        relative("- - /a - -", "- - /a/ - -", "-");
        relative("- - /a - -", "- - /a/b - -", "-");
        relative("- - /a - -", "- - /ab - -", "-");
        relative("- - /a - -", "- - /b - -", "-");
        relative("- - /a - -", "- - / - -", "-");
        relative("- c  - -", "- c / - -", "-");
        relative("- c  - -", "- c /a - -", "-");
        relative("- -   -", "- - a - -", "-");
        relative("- - .. - -", "- - ../a - -", "-");
        relative("- - /%4a - -", "- - /%4A - -", "-");
        relative("- - a - -", "- - /a - -", "-");
    }

    private static void behindBase() {
        Check.sentence("5: if the given one's PATH begins with it, sign by sign, what lies behind is what follows");
        relative("- - / - -", "- - /a - -", "a");
        relative("- - / - -", "- - /a/ - -", "a/");
        relative("- - / - -", "- - /.. - -", "..");
        relative("- - /a/ - -", "- - /a/a/ - -", "a/");
        relative("- - a/ - -", "- - a/b/A - -", "b/A");
        relative("- - ../ - -", "- - ../../a - -", "../a");
        relative("- - ./d:e/ - -", "- - ./d:e/a - -", "a");
        relative("- - %4a/ - -", "- - %4a/%4A - -", "%4A");
        relative("z+1.- ~%4a /a/b/A/ab/%4a/%4A/d:e/ x=1 f", "z+1.- ~%4a /a/b/A/ab/%4a/%4A/d:e/... a/../b %4A",
                "...?a/../b#%4A");
        relative("- c / x=1 f", "- c /a - -", "a");
    }

    private static void plainlyBehindBase() {
        Check.sentence("5: if it begins so PLAINLY alone, it is LEFT OPEN");
        relative("- - /%4a/ - -", "- - /%4A/ - -", "-");
        relative("- - /%4A/ - -", "- - /%4a/a - -", "-");
        relative("- - /a/%4a/ - -", "- - /a/%4A/b - -", "-");
        relative("- - %4a/%4A/ - -", "- - %4a/%4a/b - -", "-");
        relative("- - %4a/ - -", "- - %4A/d:e - -", "-");
        relative("- - /%4a/A/ - -", "- - /%4A/a/b - -", "=");
        relative("- - /%4a/ - -", "- - /%4A - -", "=");
        relative("- - /A/ - -", "- - /a/b - -", "=");
    }

    private static void notBehindBase() {
        Check.sentence("5: otherwise it is the given one");
        relative("- - /a/ - -", "- - /a - -", "=");
        relative("- - /a/ - -", "- - /ab - -", "=");
        relative("- - /a/ - -", "- - / - -", "=");
        relative("- - /a/b/ - -", "- - /a/ - -", "=");
        relative("- - a/ - -", "- - /a/ - -", "=");
        relative("- - / - -", "- - a - -", "=");
        relative("- - / - -", "- - ./d:e - -", "=");
        relative("- - a/ - -", "- - ./d:e - -", "=");
        relative("s c / - -", "s c  x=1 -", "=");
        relative("- - ../ - -", "- - .. - -", "=");
    }

    private static void colonBehindBase() {
        Check.sentence("5: if a \":\" stands in the first PIECE of what lies behind, it is LEFT OPEN");
        relative("- - / - -", "- - /d:e - -", "-");
        relative("- - / - -", "- - /d:e/ - -", "-");
        relative("- - /a/ - -", "- - /a/d:e/b x=1 f", "-");
        relative("- - ./d:e/ - -", "- - ./d:e/d:e - -", "-");
        relative("s u@a.b / - -", "s u@a.b /d:e - -", "-");
        relative("- - / - -", "- - /a/d:e - -", "a/d:e");
        relative("- - / - -", "- - /../d:e - -", "../d:e");
        relative("s a.b:80 / - -", "s a.b:80 /a - -", "a");
    }

    private static void partsOfRelatives() {
        Check.sentence("5: that as its PATH, the given one's QUERY and FRAGMENT, and no SCHEME, no AUTHORITY");
        String[] authorities = {"-", "a.b:80", "U@A.B", "~%4a"};
        for (String authority : authorities) {
            for (String query : new String[] {"-", "", "x=1", "a/../b"}) {
                for (String fragment : new String[] {"-", "", "f", "%4A"}) {
                    String behind = " " + query + " " + fragment;
                    relativeParts(authority, "/a/ x=1 F", "/a/b/" + behind, "b/", query, fragment);
                    relativeParts(authority, "/a x=1 F", "/a" + behind, "", query, fragment);
                    relativeParts(authority, "/ - -", "/..." + behind, "...", query, fragment);
                }
            }
        }
    }

    private static void relativeParts(String authority, String base, String given, String path, String query,
            String fragment) {
        Addressloom x = new Addressloom();
        Check.weave(x, 0, "HTTP " + authority + " " + base);
        Check.weave(x, 1, "HTTP " + authority + " " + given);
        Check.due("relativize(0, 1, 3)", x.relativize(0, 1, 3), 1);
        String of = " of the relative " + x.text(3);
        Check.due("text" + of, x.text(3), path + (query.equals("-") ? "" : "?" + query)
                + (fragment.equals("-") ? "" : "#" + fragment));
        Check.due("schemeOf" + of, x.schemeOf(3), "-");
        Check.due("restOf" + of, x.restOf(3), path + (query.equals("-") ? "" : "?" + query));
        Check.due("authorityOf" + of, x.authorityOf(3), "-");
        Check.due("userOf" + of, x.userOf(3), "-");
        Check.due("hostOf" + of, x.hostOf(3), "-");
        Check.due("portOf" + of, x.portOf(3), -1);
        Check.due("pathOf" + of, x.pathOf(3), path);
        Check.due("queryOf" + of, x.queryOf(3), query);
        Check.due("fragmentOf" + of, x.fragmentOf(3), fragment);
        Check.due("isOpaque" + of, x.isOpaque(3), false);
        Check.due("isAbsolute" + of, x.isAbsolute(3), false);
        Check.due("again(3, 4)" + of, x.again(3, 4), x.text(3).isEmpty() ? -9 : 1);
        Check.due("isSound() with" + of, x.isSound(), true);
    }

    private static void openIsNotCounted() {
        Check.sentence("promise 37: \"-\" if it is LEFT OPEN (it is no -9)");
        Telling.answersAndStays("relativeText(0, 0)", "-", CellNumbersTest::six, x -> x.relativeText(0, 0));
        Telling.answersAndStays("relativeText(0, 4)", "-", CellNumbersTest::six, x -> x.relativeText(0, 4));
        Telling.answersAndStays("relativeText(2, 5)", "-", CellNumbersTest::six, x -> x.relativeText(2, 5));
    }

    // ---- of all

    /** EQUAL ones have the same letter; the letters stand in ORDER. Texts of EQUAL ones are not the same. */
    private static Addressloom lettered(String letters) {
        String[] told = {"- - %4a - -", "- - A/%4a - -", "s c /%4a - -"};
        Addressloom x = new Addressloom();
        for (int cell = 0; cell < 6; cell++) {
            String one = told[letters.charAt(cell) - 'a'];
            Check.weave(x, cell, cell % 2 == 0 ? one : one.replace("%4a", "%4A"));
        }
        return x;
    }

    private static void finds() {
        Check.sentence("promise 41: the first cell that has such a one, or the last one");
        for (String letters : new String[] {"abbbba", "baaaab", "abcabc", "aaaaaa", "abbbbb", "bbbbba", "cbacba"}) {
            Addressloom x = lettered(letters);
            for (int cell = 0; cell < 6; cell++) {
                char letter = letters.charAt(cell);
                Check.due("find(" + cell + ", false) of " + letters, x.find(cell, false), letters.indexOf(letter));
                Check.due("find(" + cell + ", true) of " + letters, x.find(cell, true), letters.lastIndexOf(letter));
            }
        }
    }

    private static void likes() {
        Check.sentence("promise 42: itself counts");
        for (String letters : new String[] {"abbbba", "abcabc", "aaaaaa", "abbbbb", "bbbbba", "ccabbb"}) {
            Addressloom x = lettered(letters);
            for (int cell = 0; cell < 6; cell++) {
                int at = cell;
                int want = (int) letters.chars().filter(letter -> letter == letters.charAt(at)).count();
                Check.due("like(" + cell + ") of " + letters, x.like(cell), want);
            }
        }
    }

    private static void aheads() {
        Check.sentence("promise 43: how many stand ahead of its own (EQUAL ones do not)");
        for (String letters : new String[] {"abbbba", "abcabc", "aaaaaa", "abbbbb", "bbbbba", "ccabbb", "cccccb"}) {
            Addressloom x = lettered(letters);
            for (int cell = 0; cell < 6; cell++) {
                int at = cell;
                int want = (int) letters.chars().filter(letter -> letter < letters.charAt(at)).count();
                Check.due("ahead(" + cell + ") of " + letters, x.ahead(cell), want);
            }
        }
    }
}
