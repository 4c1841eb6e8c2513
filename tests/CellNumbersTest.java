import java.util.List;

/**
 * "If cell is not 0 to 5" and its like, of each argument of promises 14 to 43: all numbers inside and those just
 * outside, alone and with other wrong ones.
 */
final class CellNumbersTest {
    private static final int[] BEYOND = {-1, 6, 7, Integer.MIN_VALUE, Integer.MAX_VALUE};

    /** What the cells of six() have: scheme, rest, authority, user, host, path, query, fragment, normal text. */
    static final String[] TEXTS = {"http://u@a.b/a/../b?x=1#f", "s:?a/../b#", "", "//~%4A/%4a/",
        "HTTP://a.b:80/a/b?", "%4a/d:e#%4A"};
    static final String[] SCHEMES = {"http", "s", "-", "-", "HTTP", "-"};
    static final String[] RESTS = {"//u@a.b/a/../b?x=1", "?a/../b", "", "//~%4A/%4a/", "//a.b:80/a/b?",
        "%4a/d:e"};
    static final String[] AUTHORITIES = {"u@a.b", "-", "-", "~%4A", "a.b:80", "-"};
    static final String[] USERS = {"u", "-", "-", "-", "-", "-"};
    static final String[] HOSTS = {"a.b", "-", "-", "-", "a.b", "-"};
    static final int[] PORTS = {-1, -1, -1, -1, 80, -1};
    static final String[] PATHS = {"/a/../b", "-", "", "/%4a/", "/a/b", "%4a/d:e"};
    static final String[] QUERIES = {"x=1", "-", "-", "-", "", "-"};
    static final String[] FRAGMENTS = {"f", "", "-", "-", "-", "%4A"};
    static final String[] NORMALS = {"http://u@a.b/b?x=1#f", "s:?a/../b#", "", "//~%4A/%4a/",
        "HTTP://a.b:80/a/b?", "%4a/d:e#%4A"};
    static final int[] AHEAD = {4, 5, 0, 2, 3, 1};

    interface OfCells {
        Object on(Addressloom x, int[] cells);
    }

    /** A call by its name, with how many cells it takes. */
    private record Asked(int promise, String name, int arity, OfCells call) {
    }

    private static final List<Asked> CALLS = List.of(
            new Asked(14, "weave", 1, (x, c) -> x.weave(c[0])),
            new Asked(15, "again", 2, (x, c) -> x.again(c[0], c[1])),
            new Asked(16, "copy", 2, (x, c) -> x.copy(c[0], c[1])),
            new Asked(17, "swap", 2, (x, c) -> x.swap(c[0], c[1])),
            new Asked(18, "normalize", 2, (x, c) -> x.normalize(c[0], c[1])),
            new Asked(19, "relativize", 3, (x, c) -> x.relativize(c[0], c[1], c[2])),
            new Asked(21, "best, ahead,", 1, (x, c) -> x.best(false, c[0])),
            new Asked(21, "best, behind,", 1, (x, c) -> x.best(true, c[0])),
            new Asked(22, "text", 1, (x, c) -> x.text(c[0])),
            new Asked(23, "schemeOf", 1, (x, c) -> x.schemeOf(c[0])),
            new Asked(24, "restOf", 1, (x, c) -> x.restOf(c[0])),
            new Asked(25, "authorityOf", 1, (x, c) -> x.authorityOf(c[0])),
            new Asked(26, "userOf", 1, (x, c) -> x.userOf(c[0])),
            new Asked(27, "hostOf", 1, (x, c) -> x.hostOf(c[0])),
            new Asked(28, "portOf", 1, (x, c) -> x.portOf(c[0])),
            new Asked(29, "pathOf", 1, (x, c) -> x.pathOf(c[0])),
            new Asked(30, "queryOf", 1, (x, c) -> x.queryOf(c[0])),
            new Asked(31, "fragmentOf", 1, (x, c) -> x.fragmentOf(c[0])),
            new Asked(32, "isAbsolute", 1, (x, c) -> x.isAbsolute(c[0])),
            new Asked(33, "isOpaque", 1, (x, c) -> x.isOpaque(c[0])),
            new Asked(34, "isNormal", 1, (x, c) -> x.isNormal(c[0])),
            new Asked(35, "normalText", 1, (x, c) -> x.normalText(c[0])),
            new Asked(36, "isOther", 1, (x, c) -> x.isOther(c[0], 2)),
            new Asked(37, "relativeText", 2, (x, c) -> x.relativeText(c[0], c[1])),
            new Asked(38, "areEqual", 2, (x, c) -> x.areEqual(c[0], c[1], 0)),
            new Asked(39, "order", 2, (x, c) -> x.order(c[0], c[1], 0)),
            new Asked(40, "oneHash", 2, (x, c) -> x.oneHash(c[0], c[1])),
            new Asked(41, "find, from the begin,", 1, (x, c) -> x.find(c[0], false)),
            new Asked(41, "find, from the end,", 1, (x, c) -> x.find(c[0], true)),
            new Asked(42, "like", 1, (x, c) -> x.like(c[0])),
            new Asked(43, "ahead", 1, (x, c) -> x.ahead(c[0])),
            // the same with a number beside the cells that is wrong, too: the cell's exception is named first
            new Asked(36, "isOther of -1", 1, (x, c) -> x.isOther(c[0], -1)),
            new Asked(36, "isOther of 3", 1, (x, c) -> x.isOther(c[0], 3)),
            new Asked(38, "areEqual by -1", 2, (x, c) -> x.areEqual(c[0], c[1], -1)),
            new Asked(38, "areEqual by 2", 2, (x, c) -> x.areEqual(c[0], c[1], 2)),
            new Asked(39, "order by -1", 2, (x, c) -> x.order(c[0], c[1], -1)),
            new Asked(39, "order by 2", 2, (x, c) -> x.order(c[0], c[1], 2)));

    public static void main(String[] args) {
        for (Asked asked : CALLS) {
            Check.sentence("promise " + asked.promise + ": if cell is not 0 to 5");
            outside(asked);
        }
        wrongNumbers();
        weavesOutside();
        askedInside();
        actsInside();
        swapsInside();
        relativesInside();
        bestInside();
        pairsInside();
        Check.end("CellNumbersTest");
    }

    /** Six cells, none EQUAL to another one: an empty text, an opaque one, one that is not normal among them. */
    static Addressloom six() {
        Addressloom x = new Addressloom();
        Check.weave(x, 2, "- - a/.. - -");
        x.normalize(2, 2);
        Check.weave(x, 0, "http u@a.b /a/../b x=1 f");
        Check.weave(x, 1, "s -  a/../b ");
        Check.weave(x, 3, "- ~%4A /%4a/ - -");
        Check.weave(x, 4, "HTTP a.b:80 /a/b  -");
        Check.weave(x, 5, "- - %4a/d:e - %4A");
        return x;
    }

    private static Addressloom sixWith(String draft) {
        Addressloom x = six();
        Check.draft(x, draft);
        return x;
    }

    /** Every choice of wrong ones among the arguments, with each number beyond, beside 0 and beside 5. */
    private static void outside(Asked asked) {
        for (int wrongOnes = 1; wrongOnes < 1 << asked.arity; wrongOnes++) {
            for (int beyond = 0; beyond < BEYOND.length; beyond++) {
                for (int inside : new int[] {0, 5}) {
                    int[] cells = new int[asked.arity];
                    StringBuilder named = new StringBuilder(asked.name);
                    for (int i = 0; i < cells.length; i++) {
                        boolean isWrong = (wrongOnes >> i & 1) == 1;
                        cells[i] = isWrong ? BEYOND[(beyond + i) % BEYOND.length] : inside;
                        named.append(' ').append(cells[i]);
                    }
                    Telling.throwsAndStays(named.toString(), Check.INDEX, CellNumbersTest::six,
                            x -> asked.call.on(x, cells));
                }
            }
        }
    }

    private static void wrongNumbers() {
        for (int beyond : new int[] {-1, 3, 4, Integer.MIN_VALUE, Integer.MAX_VALUE}) {
            Check.sentence("promise 36: if what is not 0 to 2");
            for (int cell = 0; cell < 6; cell++) {
                int at = cell;
                Telling.throwsAndStays("isOther(" + at + ", " + beyond + ")", Check.ARGUMENT,
                        CellNumbersTest::six, x -> x.isOther(at, beyond));
            }
        }
        for (int beyond : new int[] {-1, 2, 3, Integer.MIN_VALUE, Integer.MAX_VALUE}) {
            for (int other : new int[] {0, 5}) {
                Check.sentence("promise 38: if how is not 0 or 1");
                Telling.throwsAndStays("areEqual(0, " + other + ", " + beyond + ")", Check.ARGUMENT,
                        CellNumbersTest::six, x -> x.areEqual(0, other, beyond));
                Check.sentence("promise 39: if how is not 0 or 1");
                Telling.throwsAndStays("order(0, " + other + ", " + beyond + ")", Check.ARGUMENT,
                        CellNumbersTest::six, x -> x.order(0, other, beyond));
            }
        }
    }

    private static void weavesOutside() {
        Check.sentence("6: the exception that is named first is thrown, promise 14");
        String[] drafts = {"- -  - -", "- c a - -", "- - d:e - -", "1a c ^ - -", "1a -  - -", "- a^b /%g1 - -"};
        for (String draft : drafts) {
            for (int beyond : BEYOND) {
                Telling.throwsAndStays("weave(" + beyond + ") of " + draft, Check.INDEX, () -> sixWith(draft),
                        x -> x.weave(beyond));
            }
        }
    }

    private static void askedInside() {
        Check.sentence("promises 22 to 36, 41 to 43: each cell 0 to 5");
        Addressloom x = six();
        for (int cell = 0; cell < 6; cell++) {
            String at = "(" + cell + ")";
            Check.due("text" + at, x.text(cell), TEXTS[cell]);
            Check.due("schemeOf" + at, x.schemeOf(cell), SCHEMES[cell]);
            Check.due("restOf" + at, x.restOf(cell), RESTS[cell]);
            Check.due("authorityOf" + at, x.authorityOf(cell), AUTHORITIES[cell]);
            Check.due("userOf" + at, x.userOf(cell), USERS[cell]);
            Check.due("hostOf" + at, x.hostOf(cell), HOSTS[cell]);
            Check.due("portOf" + at, x.portOf(cell), PORTS[cell]);
            Check.due("pathOf" + at, x.pathOf(cell), PATHS[cell]);
            Check.due("queryOf" + at, x.queryOf(cell), QUERIES[cell]);
            Check.due("fragmentOf" + at, x.fragmentOf(cell), FRAGMENTS[cell]);
            Check.due("isAbsolute" + at, x.isAbsolute(cell), !SCHEMES[cell].equals("-"));
            Check.due("isOpaque" + at, x.isOpaque(cell), cell == 1);
            Check.due("isNormal" + at, x.isNormal(cell), cell != 0);
            Check.due("normalText" + at, x.normalText(cell), NORMALS[cell]);
            Check.due("find" + at, x.find(cell, false), cell);
            Check.due("find, from the end," + at, x.find(cell, true), cell);
            Check.due("like" + at, x.like(cell), 1);
            Check.due("ahead" + at, x.ahead(cell), AHEAD[cell]);
            for (int what = 0; what <= 2; what++) {
                Check.due("isOther(" + cell + ", " + what + ")", x.isOther(cell, what), false);
            }
        }
    }

    /** The six texts, with another one in one cell. */
    private static void textsWith(Addressloom x, int into, String comes) {
        for (int cell = 0; cell < 6; cell++) {
            Check.due("text(" + cell + ")", x.text(cell), cell == into ? comes : TEXTS[cell]);
        }
    }

    private static void actsInside() {
        Check.sentence("promises 14, 15, 16, 18: each cell 0 to 5, into each cell 0 to 5");
        for (int cell = 0; cell < 6; cell++) {
            Addressloom woven = sixWith("z+1.- c /ab - -");
            Check.due("weave(" + cell + ")", woven.weave(cell), 1);
            textsWith(woven, cell, "z+1.-://c/ab");
            for (int into = 0; into < 6; into++) {
                String both = "(" + cell + ", " + into + ")";
                int changes = cell == into ? 0 : 1;
                Addressloom copied = six();
                Check.due("copy" + both, copied.copy(cell, into), changes);
                textsWith(copied, into, TEXTS[cell]);
                Addressloom read = six();
                Check.due("again" + both, read.again(cell, into), cell == 2 ? -9 : changes);
                textsWith(read, into, cell == 2 ? TEXTS[into] : TEXTS[cell]);
                Addressloom normal = six();
                Check.due("normalize" + both, normal.normalize(cell, into), cell == 0 ? 1 : changes);
                textsWith(normal, into, NORMALS[cell]);
            }
        }
    }

    private static void swapsInside() {
        Check.sentence("promise 17: each two cells 0 to 5, or the same");
        for (int one = 0; one < 6; one++) {
            for (int other = 0; other < 6; other++) {
                Addressloom x = six();
                Check.due("swap(" + one + ", " + other + ")", x.swap(one, other), one == other ? 0 : 1);
                for (int cell = 0; cell < 6; cell++) {
                    int from = cell == one ? other : cell == other ? one : cell;
                    Check.due("text(" + cell + ")", x.text(cell), TEXTS[from]);
                }
                Check.due("house(1)", x.house(1), 8);
            }
        }
    }

    /** By section 5: the given one by most bases, since neither schemes nor authorities are the same. */
    static String relative(int base, int given) {
        boolean isOpen = base == 0 && given == 0 || base == 2 && given == 5 || base == 5 && given == 2
                || base == 0 && given == 4 || base == 4 && given == 0;
        if (isOpen) {
            return "-";
        }
        String[] byItself = {"-", "s:?a/../b#", "", "", "?", "#%4A"};
        return base == given ? byItself[given] : TEXTS[given];
    }

    private static void relativesInside() {
        Check.sentence("promises 19 and 37: each two cells 0 to 5, into each cell 0 to 5");
        for (int base = 0; base < 6; base++) {
            for (int given = 0; given < 6; given++) {
                String want = relative(base, given);
                Check.due("relativeText(" + base + ", " + given + ")", six().relativeText(base, given), want);
                for (int into = 0; into < 6; into++) {
                    Addressloom x = six();
                    int told = want.equals("-") ? -9 : want.equals(TEXTS[into]) ? 0 : 1;
                    Check.due("relativize(" + base + ", " + given + ", " + into + ")",
                            x.relativize(base, given, into), told);
                    textsWith(x, into, told == -9 ? TEXTS[into] : want);
                    Check.due("house(1)", x.house(1), told == -9 ? 7 : 8);
                    Check.due("house(2)", x.house(2), told == -9 ? 1 : 0);
                }
            }
        }
    }

    private static void bestInside() {
        Check.sentence("promise 21: into each cell 0 to 5");
        for (int into = 0; into < 6; into++) {
            Addressloom x = six();
            Check.due("best(false, " + into + ")", x.best(false, into), into == 2 ? 0 : 1);
            textsWith(x, into, TEXTS[2]);
            Addressloom y = six();
            Check.due("best(true, " + into + ")", y.best(true, into), into == 1 ? 0 : 1);
            textsWith(y, into, TEXTS[1]);
        }
    }

    private static void pairsInside() {
        Check.sentence("promises 38 to 40: each two cells 0 to 5, or the same");
        for (int one = 0; one < 6; one++) {
            for (int other = 0; other < 6; other++) {
                Addressloom x = six();
                String both = "(" + one + ", " + other + ")";
                for (int how = 0; how <= 1; how++) {
                    Check.due("areEqual" + both, x.areEqual(one, other, how), one == other);
                    Check.due("order" + both, x.order(one, other, how), Integer.compare(AHEAD[one], AHEAD[other]));
                }
                Check.due("house(2)", x.house(2), 0);
                Check.due("oneHash" + both, x.oneHash(one, other), one == other ? 1 : -9);
                Check.due("house(2)", x.house(2), one == other ? 0 : 1);
            }
        }
    }
}
