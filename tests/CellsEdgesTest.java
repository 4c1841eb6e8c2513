import java.util.Map;

/**
 * The boundary cases of section 6 and of promises 14 to 21 (but for the cells' numbers, which are
 * CellNumbersTest's): a function for each sentence that names some.
 */
final class CellsEdgesTest {
    /** In ORDER; the six are not EQUAL. */
    private static final String[] RISING = {"- - %4a - -", "- - A - -", "- ~a  - -", "HTTP c / - -", "s - / - -",
        "s - . - -"};
    private static final String[] RISING_TEXTS = {"%4a", "A", "//~a", "HTTP://c/", "s:/", "s:."};

    public static void main(String[] args) {
        rootInEachCell();
        faultyDrafts();
        restOfFaultyOnes();
        lastFaultyOne();
        draftNotLet();
        draftStays();
        equalOneThere();
        emptyTextAgain();
        exceptionsAheadOfEmpty();
        shortestTextsAgain();
        normalizeIntoItself();
        copyIntoItself();
        swapWithItself();
        leftOpen();
        exceptionsAheadOfLeftOpen();
        relativizeIntoOneOfThem();
        sortedAlready();
        sortEqualOnes();
        sortTwoKinds();
        sortEachSequence();
        bestOfEqualOnes();
        bestIntoItsOwnCell();
        Check.end("CellsEdgesTest");
    }

    private static void texts(Addressloom x, String... want) {
        for (int cell = 0; cell < want.length; cell++) {
            Check.due("text(" + cell + ")", x.text(cell), want[cell]);
        }
    }

    private static Addressloom woven(String... told) {
        Addressloom x = new Addressloom();
        for (int cell = 0; cell < told.length; cell++) {
            Check.weave(x, cell, told[cell]);
        }
        return x;
    }

    private static Addressloom drafted(String told) {
        Addressloom x = CellNumbersTest.six();
        Check.draft(x, told);
        return x;
    }

    private static void rootInEachCell() {
        Check.sentence("promise 1 and section 6: at first each cell has \"/\"");
        Addressloom x = new Addressloom();
        for (int cell = 0; cell < 6; cell++) {
            Check.due("text", x.text(cell), "/");
            Check.due("schemeOf", x.schemeOf(cell), "-");
            Check.due("restOf", x.restOf(cell), "/");
            Check.due("authorityOf", x.authorityOf(cell), "-");
            Check.due("userOf", x.userOf(cell), "-");
            Check.due("hostOf", x.hostOf(cell), "-");
            Check.due("portOf", x.portOf(cell), -1);
            Check.due("pathOf", x.pathOf(cell), "/");
            Check.due("queryOf", x.queryOf(cell), "-");
            Check.due("fragmentOf", x.fragmentOf(cell), "-");
            Check.due("isAbsolute", x.isAbsolute(cell), false);
            Check.due("isOpaque", x.isOpaque(cell), false);
            Check.due("isNormal", x.isNormal(cell), true);
            Check.due("normalText", x.normalText(cell), "/");
            Check.due("like", x.like(cell), 6);
            Check.due("ahead", x.ahead(cell), 0);
        }
        Check.draft(x, "- - / - -");
        for (int cell = 0; cell < 6; cell++) {
            Check.due("weave(" + cell + ") of \"/\"", x.weave(cell), 0);
        }
    }

    private static void faultyDrafts() {
        Check.sentence("promise 14: -9 if the DRAFT is FAULTY; nothing is changed then, but what is told");
        String[] faulty = {"1a - /a - -", "1a -  - -", "- a^b  - -", "HTTP a^b /a x=1 f", "- - ^ - -", "- - %g1 - -",
            "- - /a/b/A/ab/a/b/A/^ - -", "- - %g1/a/b/A/ab/a/b/A/ - -", "http -  - -", "HTTP -  - f", "s -  - ",
            "z+1.- -  - %4A", "1a a^b /^/%g1 a/../b F"};
        for (String told : faulty) {
            for (int cell = 0; cell < 6; cell++) {
                Telling.refusesFaulty("weave(" + cell + ") of " + told, () -> drafted(told), cell);
            }
        }
        faultyText("1a - /a - -", "1a:/a");
        faultyText("1a -  - -", "1a:");
        faultyText("- a^b  - -", "//a^b");
        faultyText("- - /a/b/A/ab/a/b/A/^ - -", "/a/b/A/ab/a/b/A/^");
        faultyText("- - %g1/ - -", "%g1/");
        faultyText("http -  - ", "http:#");
        faultyText("1a a^b /^/%g1 a/../b F", "1a://a^b/^/%g1?a/../b#F");
        Addressloom x = new Addressloom();
        x.scheme(3);
        x.ended(true);
        Check.due("weave(0) of a scheme alone, ended", x.weave(0), -9);
        Check.due("faulty()", x.faulty(), "s:");
    }

    private static void faultyText(String told, String want) {
        Addressloom x = drafted(told);
        Check.due("weave(5) of " + told, x.weave(5), -9);
        Check.due("faulty()", x.faulty(), want);
        Check.due("text(5) stays", x.text(5), "%4a/d:e#%4A");
    }

    private static void restOfFaultyOnes() {
        Check.sentence("1: FAULTY by what is told alone, or if it has a SCHEME, and its REST is empty");
        String[] sound = {"z+1.- ~%4A /%2e a/../b %4A", "HTTP U@A.B /... - -", "- ~%4A  - -", "- - %2e/%4A - -",
            "s c  - -", "s - / - -", "s - . - -", "s -   -", "s -   ", "- -  - ", "- -  - f", "- -   -",
            "- c  - -"};
        for (String told : sound) {
            Addressloom x = drafted(told);
            Check.due("weave(0) of " + told, x.weave(0), 1);
            Check.due("text(0)", x.text(0), x.draft());
            Check.due("faulty()", x.faulty(), "");
            Check.due("house(2)", x.house(2), 0);
            Check.due("house(3)", x.house(3), 0);
        }
    }

    private static void lastFaultyOne() {
        Check.sentence("promise 45: the DRAFT that was FAULTY last, as weave() was called");
        Addressloom x = drafted("- a^b  - -");
        Check.due("faulty() without", x.faulty(), "");
        x.weave(0);
        Check.due("faulty()", x.faulty(), "//a^b");
        Check.draft(x, "- - /^ - -");
        Check.due("faulty() ahead of weave()", x.faulty(), "//a^b");
        Check.dueThrow("weave(6)", Check.INDEX, () -> x.weave(6));
        Check.due("faulty() behind one that threw", x.faulty(), "//a^b");
        x.weave(5);
        Check.due("faulty()", x.faulty(), "/^");
        Check.draft(x, "1a c a - -");
        Check.dueThrow("weave(0)", Check.STATE, () -> x.weave(0));
        Check.due("faulty() behind one that was not let", x.faulty(), "/^");
        Check.due("house(3)", x.house(3), 2);
    }

    private static void draftNotLet() {
        Check.sentence("promise 14: throws if the DRAFT is not LET, FAULTY or not");
        String[] drafts = {"- -  - -", "- c a - -", "http c a - -", "- - d:e - -", "- - d:e/^ - -", "1a c a - -",
            "1a a^b ^ - -", "- c %g1/ x=1 f"};
        for (String told : drafts) {
            for (int cell = 0; cell < 6; cell++) {
                int at = cell;
                Telling.throwsAndStays("weave(" + cell + ") of " + told, Check.STATE, () -> drafted(told),
                        x -> x.weave(at));
            }
        }
    }

    private static void draftStays() {
        Check.sentence("promise 14: the DRAFT stays");
        String told = "z+1.- ~%4A /../a/b/A/ab/%4a/%4A/d:e/ a/../b %4A";
        Addressloom x = drafted(told);
        Check.due("weave(2)", x.weave(2), 1);
        Check.due("weave(3)", x.weave(3), 1);
        Check.due("weave(3) again", x.weave(3), 0);
        Check.due("draft()", x.draft(), "z+1.-://~%4A/../a/b/A/ab/%4a/%4A/d:e/?a/../b#%4A");
        int[] want = {4, 11, 1, 8, 1, 6, 5};
        for (int what = 0; what <= 6; what++) {
            Check.due("ofDraft(" + what + ")", x.ofDraft(what), want[what]);
        }
        Check.due("unpiece(8)", x.unpiece(8), 0);
        Check.due("text(2) is its own", x.text(2), "z+1.-://~%4A/../a/b/A/ab/%4a/%4A/d:e/?a/../b#%4A");
    }

    private static void equalOneThere() {
        Check.sentence("promises 14 to 21: 1 if what was there was not EQUAL to that, otherwise 0");
        Addressloom x = woven("http U@A.B /%4a %4a %4a", "- - /b/ - -", "- - /b/./ - -", "- - / - -", "- - /b/%4a - -",
                "- - %4A - -");
        Check.draft(x, "HTTP U@A.B /%4A %4A %4A");
        Check.due("weave(0) of an EQUAL one", x.weave(0), 0);
        Check.due("text(0), the new one's", x.text(0), "HTTP://U@A.B/%4A?%4A#%4A");
        Check.draft(x, "HTTP u@a.b /%4A %4A %4A");
        Check.due("weave(0) of another one", x.weave(0), 1);
        Check.due("relativize(1, 4, 5) of an EQUAL one", x.relativize(1, 4, 5), 0);
        Check.due("text(5), the new one's", x.text(5), "%4a");
        Check.due("normalize(2, 1) of an EQUAL one", x.normalize(2, 1), 0);
        Check.due("normalize(2, 2) of another one", x.normalize(2, 2), 1);
        Check.due("copy(2, 1) of an EQUAL one", x.copy(2, 1), 0);
        Check.due("swap(1, 2) of EQUAL ones", x.swap(1, 2), 0);
        Check.due("swap(2, 3) of others", x.swap(2, 3), 1);
        Check.due("house(1)", x.house(1), 14);
    }

    private static void emptyTextAgain() {
        Check.sentence("promise 15: -9 if the text is empty");
        for (int into = 0; into < 6; into++) {
            int to = into;
            Telling.refuses("again(2, " + into + ")", CellNumbersTest::six, x -> x.again(2, to));
        }
        Addressloom x = woven("s c /a - -");
        x.relativize(0, 0, 3);
        Check.due("text(3), a relative one", x.text(3), "");
        Check.due("again(3, 3)", x.again(3, 3), -9);
        Check.due("again(3, 0)", x.again(3, 0), -9);
        texts(x, "s://c/a", "/", "/", "", "/", "/");
        Check.due("house(1)", x.house(1), 2);
        Check.due("house(2)", x.house(2), 2);
    }

    private static void exceptionsAheadOfEmpty() {
        Check.sentence("6: exceptions go ahead of -9, promise 15");
        for (int beyond : Check.NO_CELLS) {
            Telling.throwsAndStays("again(2, " + beyond + ")", Check.INDEX, CellNumbersTest::six,
                    x -> x.again(2, beyond));
        }
    }

    private static void shortestTextsAgain() {
        Check.sentence("promise 15: the ADDRESS with the same text and all the same parts");
        String[] told = {"- -   -", "- -  - ", "- - / - -", "- - . - -", "s -   -", "- c  - -", "- -   ",
            "- - ./d:e - -", "z+1.- U@A.B /d:e/../. a/../b %4A", "z+1.- - d:e a/../b %4A"};
        for (String one : told) {
            Addressloom x = woven(one, "s a.b:8 /b/A x=1 F");
            Check.due("again(0, 1) of " + x.text(0), x.again(0, 1), 1);
            Map<String, Object> parts = Telling.of(x);
            for (String part : new String[] {"text", "schemeOf", "restOf", "authorityOf", "userOf", "hostOf", "portOf",
                "pathOf", "queryOf", "fragmentOf", "isAbsolute", "isOpaque", "isNormal", "normalText"}) {
                Check.due(part + " of " + x.text(0), parts.get(part + "(1)"), parts.get(part + "(0)"));
            }
            Check.due("again(0, 1) again", x.again(0, 1), 0);
            Check.due("again(0, 0)", x.again(0, 0), 0);
            Check.due("house(1)", x.house(1), 5);
            Check.due("house(2)", x.house(2), 0);
        }
    }

    private static void normalizeIntoItself() {
        Check.sentence("promise 18: cells that are one and the same");
        Addressloom x = woven("- - a/. - -", "- - a/.. - -", "s - a/.. - -", "- - /a/../d:e - -", "- - a/../d:e - -");
        Check.due("normalize(0, 0)", x.normalize(0, 0), 1);
        Check.due("normalize(0, 0) again", x.normalize(0, 0), 0);
        Check.due("normalize(1, 1)", x.normalize(1, 1), 1);
        Check.due("normalize(1, 1) of an empty one", x.normalize(1, 1), 0);
        Check.due("normalize(2, 2) of an opaque one", x.normalize(2, 2), 0);
        Check.due("normalize(3, 3)", x.normalize(3, 3), 1);
        Check.due("normalize(4, 4)", x.normalize(4, 4), 1);
        Check.due("normalize(5, 5) of \"/\"", x.normalize(5, 5), 0);
        texts(x, "a/", "", "s:a/..", "/d:e", "./d:e", "/");
        Check.due("house(1)", x.house(1), 13);
    }

    private static void copyIntoItself() {
        Check.sentence("promise 16: cells that are one and the same");
        for (int cell = 0; cell < 6; cell++) {
            Addressloom x = CellNumbersTest.six();
            Map<String, Object> want = Telling.of(CellNumbersTest.six());
            want.put("house(1)", (Integer) want.get("house(1)") + 1);
            Check.due("copy(" + cell + ", " + cell + ")", x.copy(cell, cell), 0);
            Telling.same("copy(" + cell + ", " + cell + ")", Telling.of(x), want);
        }
    }

    private static void swapWithItself() {
        Check.sentence("promise 17: another one, or the same");
        for (int cell = 0; cell < 6; cell++) {
            Addressloom x = CellNumbersTest.six();
            Map<String, Object> want = Telling.of(CellNumbersTest.six());
            want.put("house(1)", (Integer) want.get("house(1)") + 1);
            Check.due("swap(" + cell + ", " + cell + ")", x.swap(cell, cell), 0);
            Telling.same("swap(" + cell + ", " + cell + ")", Telling.of(x), want);
        }
    }

    private static void leftOpen() {
        Check.sentence("promise 19: -9 if it is LEFT OPEN; nothing is changed then, but that it is counted");
        for (int into = 0; into < 6; into++) {
            int to = into;
            Telling.refuses("relativize(0, 0, " + into + ") of one that is not normal", CellNumbersTest::six,
                    x -> x.relativize(0, 0, to));
            Telling.refuses("relativize(0, 4, " + into + ") of \"http\" and \"HTTP\"", CellNumbersTest::six,
                    x -> x.relativize(0, 4, to));
            Telling.refuses("relativize(2, 5, " + into + ") by an empty path", CellNumbersTest::six,
                    x -> x.relativize(2, 5, to));
        }
    }

    private static void exceptionsAheadOfLeftOpen() {
        Check.sentence("6: exceptions go ahead of -9, promise 19");
        for (int beyond : Check.NO_CELLS) {
            Telling.throwsAndStays("relativize(0, 4, " + beyond + ")", Check.INDEX, CellNumbersTest::six,
                    x -> x.relativize(0, 4, beyond));
        }
    }

    private static void relativizeIntoOneOfThem() {
        Check.sentence("promise 19: cells that are one and the same");
        String[] told = {"http c /a/ - -", "http c /a/b x=1 F"};
        Addressloom intoBase = woven(told);
        Check.due("relativize(0, 1, 0)", intoBase.relativize(0, 1, 0), 1);
        texts(intoBase, "b?x=1#F", "http://c/a/b?x=1#F", "/");
        Addressloom intoGiven = woven(told);
        Check.due("relativize(0, 1, 1)", intoGiven.relativize(0, 1, 1), 1);
        texts(intoGiven, "http://c/a/", "b?x=1#F", "/");
        Addressloom byItself = woven(told);
        Check.due("relativize(1, 1, 1)", byItself.relativize(1, 1, 1), 1);
        texts(byItself, "http://c/a/", "?x=1#F", "/");
        Check.due("relativize(1, 1, 1) again", byItself.relativize(1, 1, 1), 0);
        texts(byItself, "http://c/a/", "?x=1#F", "/");
        Check.due("relativize(5, 5, 5) of \"/\"", byItself.relativize(5, 5, 5), 1);
        Check.due("text(5)", byItself.text(5), "");
        Check.due("relativize(5, 5, 5) of an empty one", byItself.relativize(5, 5, 5), 0);
        Check.due("text(5)", byItself.text(5), "");
        Addressloom opaque = woven("s - a - f");
        Check.due("relativize(0, 0, 0) of an opaque one", opaque.relativize(0, 0, 0), 0);
        texts(opaque, "s:a#f", "/");
    }

    private static void sortedAlready() {
        Check.sentence("promise 20: how many cells have one then that is not EQUAL to what was there");
        Addressloom x = woven(RISING);
        Check.due("sort(false) of what is sorted", x.sort(false), 0);
        texts(x, RISING_TEXTS);
        Check.due("sort(true)", x.sort(true), 6);
        Check.due("sort(true) again", x.sort(true), 0);
        for (int cell = 0; cell < 6; cell++) {
            Check.due("text(" + cell + ")", x.text(cell), RISING_TEXTS[5 - cell]);
        }
        x.swap(2, 3);
        Check.due("sort(true) of two that changed", x.sort(true), 2);
        Check.due("sort(false)", x.sort(false), 6);
        texts(x, RISING_TEXTS);
        Check.due("house(1)", x.house(1), 12);
        Check.due("sort(false) of a new one", new Addressloom().sort(false), 0);
        Check.due("sort(true) of a new one", new Addressloom().sort(true), 0);
    }

    private static void sortEqualOnes() {
        Check.sentence("promise 20: EQUAL ones in the sequence in which they stood");
        String[] told = {"http c /%4A - -", "HTTP c /%4a - -", "http c /%4a - -", "HTTP c /%4A - -",
            "http c /%4A - -", "http c /%4a - -"};
        String[] want = {"http://c/%4A", "HTTP://c/%4a", "http://c/%4a", "HTTP://c/%4A", "http://c/%4A",
            "http://c/%4a"};
        for (boolean isFalling : new boolean[] {false, true}) {
            Addressloom x = woven(told);
            Check.due("sort(" + isFalling + ")", x.sort(isFalling), 0);
            texts(x, want);
            Check.due("house(1)", x.house(1), 7);
        }
    }

    private static void sortTwoKinds() {
        Check.sentence("promise 20: EQUAL ones as told, whether the other way round or not");
        String[] told = {"- - %4A/a - -", "- - b/%4a - -", "- - %4a/a - -", "- - b/%4A - -", "- - %4A/a - -",
            "- - b/%4a - -"};
        Addressloom rising = woven(told);
        Check.due("sort(false)", rising.sort(false), 2);
        texts(rising, "%4A/a", "%4a/a", "%4A/a", "b/%4a", "b/%4A", "b/%4a");
        Addressloom falling = woven(told);
        Check.due("sort(true)", falling.sort(true), 4);
        texts(falling, "b/%4a", "b/%4A", "b/%4a", "%4A/a", "%4a/a", "%4A/a");
    }

    private static void sortEachSequence() {
        Check.sentence("promise 20: what stands ahead in the cell 0");
        sequences(new int[6], 0);
    }

    private static void sequences(int[] sequence, int many) {
        if (many == 6) {
            sortSequence(sequence);
            return;
        }
        for (int next = 0; next < 6; next++) {
            boolean isTaken = false;
            for (int i = 0; i < many; i++) {
                isTaken |= sequence[i] == next;
            }
            if (!isTaken) {
                sequence[many] = next;
                sequences(sequence, many + 1);
            }
        }
    }

    private static void sortSequence(int[] sequence) {
        Addressloom x = new Addressloom();
        int up = 0;
        int down = 0;
        for (int cell = 0; cell < 6; cell++) {
            Check.weave(x, cell, RISING[sequence[cell]]);
            up += sequence[cell] == cell ? 0 : 1;
            down += sequence[cell] == 5 - cell ? 0 : 1;
        }
        for (int cell = 0; cell < 6; cell++) {
            Check.due("ahead(" + cell + ")", x.ahead(cell), sequence[cell]);
        }
        x.copy(0, 0);
        Check.due("sort(false)", x.sort(false), up);
        texts(x, RISING_TEXTS);
        for (int cell = 0; cell < 6; cell++) {
            Check.weave(x, cell, RISING[sequence[cell]]);
        }
        Check.due("sort(true)", x.sort(true), down);
        for (int cell = 0; cell < 6; cell++) {
            Check.due("text(" + cell + ")", x.text(cell), RISING_TEXTS[5 - cell]);
        }
    }

    private static void bestOfEqualOnes() {
        Check.sentence("promise 21: of several EQUAL ones that of the cell with the smallest number");
        String[] told = {"- - b/%4A - -", "- - %4A/a - -", "- - b/%4a - -", "- - %4a/a - -", "- - A - -",
            "- - A - -"};
        Addressloom x = woven(told);
        Check.due("best(false, 5)", x.best(false, 5), 1);
        Check.due("text(5)", x.text(5), "%4A/a");
        Addressloom y = woven(told);
        Check.due("best(true, 5)", y.best(true, 5), 1);
        Check.due("text(5)", y.text(5), "b/%4A");
        String[] all = {"- - %4a - -", "- - %4A - -", "- - %4A - -", "- - %4A - -", "- - %4A - -", "- - %4A - -"};
        for (boolean isLast : new boolean[] {false, true}) {
            for (int into = 0; into < 6; into++) {
                Addressloom z = woven(all);
                Check.due("best(" + isLast + ", " + into + ") of EQUAL ones", z.best(isLast, into), 0);
                Check.due("text(" + into + ")", z.text(into), "%4a");
                Check.due("house(1)", z.house(1), 7);
            }
        }
    }

    private static void bestIntoItsOwnCell() {
        Check.sentence("promise 21: ahead of all others, or behind them, in each cell");
        for (int cell = 0; cell < 6; cell++) {
            for (int into = 0; into < 6; into++) {
                Addressloom x = woven("- - A - -", "- - A - -", "- - A - -", "- - A - -", "- - A - -", "- - A - -");
                Check.weave(x, cell, "s - a - -");
                Check.due("best(true, " + into + ")", x.best(true, into), into == cell ? 0 : 1);
                Check.due("text(" + into + ")", x.text(into), "s:a");
                Check.due("text(" + cell + ")", x.text(cell), "s:a");
                x.copy((cell + 1) % 6, into);
                Check.weave(x, cell, "- - %4a - -");
                Check.due("best(false, " + into + ")", x.best(false, into), into == cell ? 0 : 1);
                Check.due("text(" + into + ")", x.text(into), "%4a");
            }
        }
    }
}
