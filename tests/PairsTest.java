/** Promises 37 to 43: what is asked of two addresses, and of all. */
final class PairsTest {
    public static void main(String[] args) {
        relatives();
        equals();
        orders();
        wrongHows();
        counts();
        wrongCells();
        Check.end("PairsTest");
    }

    private static void relative(String base, String given, String want) {
        Addressloom x = new Addressloom();
        Check.weave(x, 0, base);
        Check.weave(x, 1, given);
        String call = "the relative of " + x.text(1) + " by " + x.text(0);
        Check.due(call, x.relativeText(0, 1), want);
        Check.due("house(2) behind relativeText", x.house(2), 0);
        int told = x.relativize(0, 1, 2);
        Check.due(call + ", told by relativize()", told == -9, want.equals("-"));
        Check.due(call + ", what came", x.text(2), want.equals("-") ? "/" : want);
        Check.due("house(2) behind relativize()", x.house(2), want.equals("-") ? 1 : 0);
    }

    private static void relatives() {
        relative("http - a - -", "http - /a - -", "http:/a");
        relative("http - /a - -", "http - a - -", "http:a");
        relative("http - a - -", "http - a - -", "http:a");
        relative("http - a/ - -", "http - a/b - -", "http:a/b");
        relative("http a.b /a/ - -", "s a.b /a/b - -", "s://a.b/a/b");
        relative("- a.b /a/ - -", "s a.b /a/b - -", "s://a.b/a/b");
        relative("s a.b /a/ - -", "- a.b /a/b - -", "//a.b/a/b");
        relative("http a.b /a/ - -", "HTTP a.b /a/b - -", "-");
        relative("http a.b /a/ - -", "HTTP c /b - -", "-");
        relative("HTTP a.b /a/ - -", "HTTP a.b /a/b - -", "b");
        relative("http a.b /a/ - -", "http A.b /a/b - -", "-");
        relative("http u@a.b /a/ - -", "http U@A.B /a/b - -", "-");
        relative("http ~a /a/ - -", "http ~A /a/b - -", "-");
        relative("http ~%4a /a/ - -", "http ~%4A /a/b - -", "-");
        relative("http ~%4a /a/ - -", "http ~%4a /a/b - -", "b");
        relative("http a.b /a/ - -", "http a.b:8 /a/b - -", "http://a.b:8/a/b");
        relative("http a.b:8 /a/ - -", "http a.b:80 /a/b - -", "http://a.b:80/a/b");
        relative("http a.b /a/ - -", "http - /a/b - -", "http:/a/b");
        relative("http - /a/ - -", "http a.b /a/b - -", "http://a.b/a/b");
        relative("- - /a/ - -", "- - /a/b - f", "b#f");
        relative("- - /a/./ - -", "- - /a/b - -", "-");
        relative("- - /a/ - -", "- - /a/./b - -", "-");
        relative("- - /a/./b - -", "- - /a/./b - -", "-");
        relative("- - a/.. - -", "- - a/.. - -", "-");
        relative("- c /a/./ - -", "- c /b/ - -", "-");
        relative("- c /a/./ - -", "- a.b /b/ - -", "//a.b/b/");
        relative("- - /a - -", "- - /a - -", "");
        relative("- - /a x=1 F", "- - /a  f", "?#f");
        relative("- - / - -", "- - / - -", "");
        relative("http a.b  - -", "http a.b  x=1 -", "?x=1");
        relative("http a.b  - -", "http a.b /a - -", "-");
        relative("http a.b /a - -", "http a.b  - -", "-");
        relative("http a.b / - -", "http a.b  - -", "http://a.b");
        relative("- - /a - -", "- - /a/b - -", "-");
        relative("- - /a - -", "- - /ab - -", "-");
        relative("- - a - -", "- - b - -", "-");
        relative("- - /a/ - -", "- - /ab - -", "/ab");
        relative("- - /a/ - -", "- - /a - -", "/a");
        relative("- - /a/ - -", "- - a/b - -", "a/b");
        relative("- - a/ - -", "- - /a/b - -", "/a/b");
        relative("- - a/ - -", "- - a/b/A x=1 -", "b/A?x=1");
        relative("- - a/ - -", "- - a/b/ - -", "b/");
        relative("- - / - -", "- - /a/b/ a/../b %4A", "a/b/?a/../b#%4A");
        relative("- - / - -", "- - a - -", "a");
        relative("- - ../ - -", "- - ../a - -", "a");
        relative("- - ../ - -", "- - ../.. - -", "..");
        relative("- - /.. - -", "- - /../a - -", "-");
        relative("- - /%4a/ - -", "- - /%4A/a - -", "-");
        relative("- - /%4a/ - -", "- - /%4a/%4A - -", "%4A");
        relative("- - /%4a/ - -", "- - /%4A - -", "/%4A");
        relative("- - /%4a/ - -", "- - /%4A/ - -", "-");
        relative("- - /%4a - -", "- - /%4A - -", "-");
        relative("- - /a/ - -", "- - /A/b - -", "/A/b");
        relative("- - / - -", "- - /d:e - -", "-");
        relative("- - / - -", "- - /d:e/a - -", "-");
        relative("- - / - -", "- - /a/d:e - -", "a/d:e");
        relative("- - ./d:e/ - -", "- - ./d:e/a - -", "a");
        relative("- - ./d:e/ - -", "- - ./d:e/ - -", "");
        relative("- - ./d:e/ - -", "- - ./d:e/d:e - -", "-");
        relative("- - /a/ x=1 f", "- - /a/b - -", "b");
    }

    private static void pair(String one, String other, int order) {
        Addressloom x = new Addressloom();
        Check.weave(x, 0, one);
        Check.weave(x, 1, other);
        String both = " of " + x.text(0) + " and " + x.text(1);
        for (int how = 0; how <= 1; how++) {
            Check.due("order" + both, x.order(0, 1, how), order);
            Check.due("order, the other way round," + both, x.order(1, 0, how), -order);
            Check.due("areEqual" + both, x.areEqual(0, 1, how), order == 0);
            Check.due("areEqual, the other way round," + both, x.areEqual(1, 0, how), order == 0);
            Check.due("order of one and itself", x.order(0, 0, how), 0);
            Check.due("areEqual of one and itself", x.areEqual(1, 1, how), true);
        }
        Check.due("oneHash" + both, x.oneHash(0, 1), order == 0 ? 1 : -9);
        Check.due("oneHash of one and itself", x.oneHash(0, 0), 1);
        Check.due("house(2)", x.house(2), order == 0 ? 0 : 1);
        Check.due("house(1)", x.house(1), 2);
        Check.due("isSound()", x.isSound(), true);
    }

    private static void equals() {
        pair("http a.b /a x=1 f", "HTTP A.b /a x=1 f", 0);
        pair("http - a - -", "HTTP - a - -", 0);
        pair("s - %4a %4a %4a", "s - %4A %4A %4A", 0);
        pair("- ~%4a /%4a %4a %4a", "- ~%4A /%4A %4A %4A", 0);
        pair("- - %4a/%4A - -", "- - %4A/%4a - -", 0);
        pair("s u@a.b  - -", "s u@a.b  - -", 0);
    }

    private static void orders() {
        pair("- - /b - -", "http - /a - -", -1);
        pair("- ~a /b X=1 F", "HTTP - a - -", -1);
        pair("HTTP - /b - -", "s - /a - -", -1);
        pair("s - a - -", "z+1.- - /a - -", -1);
        pair("HTTP - b - -", "s - /a - -", -1);
        pair("http ~A /b X=1 F", "HTTP - ... - -", -1);
        pair("http - a - f", "http - b - -", -1);
        pair("http - a - -", "http - a  -", -1);
        pair("http - A - -", "http - a - -", -1);
        pair("http - a - -", "http - a - ", -1);
        pair("http - a - ", "http - a - F", -1);
        pair("http - a - F", "http - a - f", -1);
        pair("http - a - %4a", "http - a - F", -1);
        pair("- - /b - -", "- a.b / - -", -1);
        pair("- a.b / - -", "- u@a.b / - -", -1);
        pair("- a.b /b - -", "- U@A.B /a - -", -1);
        pair("- U@A.B /b - -", "- u@a.b /a - -", -1);
        pair("- c /b - -", "- U@A.B /a - -", -1);
        pair("- A.b /b - -", "- c /a - -", -1);
        pair("- a.b /b - -", "- a.b:8 /a - -", -1);
        pair("- A.b /b - -", "- a.b:8 /a - -", -1);
        pair("- a.b:8 /b - -", "- a.b:80 /a - -", -1);
        pair("- a.b:80 /b - -", "- c /a - -", -1);
        pair("- u@a.b /b - -", "- ~a /a - -", -1);
        pair("- c /b - -", "- ~%4A /a - -", -1);
        pair("- ~%4a /b - -", "- ~A /a - -", -1);
        pair("- ~A /b - -", "- ~a /a - -", -1);
        pair("- - /b - -", "- ~a /a - -", -1);
        pair("- a.b /a - -", "- a.b:8 /a - -", -1);
        pair("- a.b:8 /a - -", "- a.b:80 /a - -", -1);
        pair("- A.b /a - -", "- c /a - -", -1);
        pair("- U@A.B /a - -", "- u@a.b /a - -", -1);
        pair("- a.b /a - -", "- u@a.b /a - -", -1);
        pair("- c /a - -", "- ~a /a - -", -1);
        pair("- - /a - -", "- ~a /a - -", -1);
        pair("- - /a - -", "- c /a - -", -1);
        pair("- ~A /a - -", "- ~a /a - -", -1);
        pair("- ~%4A /a - -", "- ~a /a - -", -1);
        pair("- -  - f", "- - a - -", -1);
        pair("- -   -", "- - a - -", -1);
        pair("- - %4a - -", "- - / - -", -1);
        pair("- - a - -", "- - a/ - -", -1);
        pair("- - a/b - -", "- - ab - -", -1);
        pair("- - A - -", "- - a - -", -1);
        pair("- - %2e - -", "- - %4a - -", -1);
        pair("- - %4A/a - -", "- - %4a/b - -", -1);
        pair("- - %4A/A - -", "- - %4a/a - -", -1);
        pair("- - a - f", "- - a x=1 -", -1);
        pair("- - a - f", "- - a  -", -1);
        pair("- - a  -", "- - a %4a -", -1);
        pair("- - a X=1 -", "- - a x=1 -", -1);
        pair("- - a X=1 -", "- - a a/../b -", -1);
        pair("- - a %4A -", "- - a X=1 -", -1);
        pair("- - a - -", "- - a - ", -1);
        pair("- - a - ", "- - a - %4a", -1);
        pair("- - a x=1 F", "- - a x=1 f", -1);
    }

    private static void wrongHows() {
        Addressloom x = new Addressloom();
        for (int how : new int[] {-1, 2, Integer.MIN_VALUE, Integer.MAX_VALUE}) {
            Check.dueThrowAndStay("areEqual by " + how, Check.ARGUMENT, x, () -> x.areEqual(0, 1, how));
            Check.dueThrowAndStay("order by " + how, Check.ARGUMENT, x, () -> x.order(0, 1, how));
            Check.dueThrowAndStay("areEqual(6, 0) by " + how, Check.INDEX, x, () -> x.areEqual(6, 0, how));
            Check.dueThrowAndStay("areEqual(0, 6) by " + how, Check.INDEX, x, () -> x.areEqual(0, 6, how));
            Check.dueThrowAndStay("order(6, 0) by " + how, Check.INDEX, x, () -> x.order(6, 0, how));
            Check.dueThrowAndStay("order(0, 6) by " + how, Check.INDEX, x, () -> x.order(0, 6, how));
        }
    }

    private static void counts() {
        Addressloom x = new Addressloom();
        Check.weave(x, 1, "http a.b /a - -");
        Check.weave(x, 2, "- - %4a - -");
        Check.weave(x, 3, "HTTP A.b /a - -");
        Check.weave(x, 5, "http A.b /a - -");
        int[] first = {0, 1, 2, 1, 0, 1};
        int[] last = {4, 5, 2, 5, 4, 5};
        int[] like = {2, 3, 1, 3, 2, 3};
        int[] ahead = {1, 3, 0, 3, 1, 3};
        for (int cell = 0; cell < 6; cell++) {
            Check.due("find(" + cell + ", false)", x.find(cell, false), first[cell]);
            Check.due("find(" + cell + ", true)", x.find(cell, true), last[cell]);
            Check.due("like(" + cell + ")", x.like(cell), like[cell]);
            Check.due("ahead(" + cell + ")", x.ahead(cell), ahead[cell]);
        }
        Check.due("house(1)", x.house(1), 4);
        Addressloom y = new Addressloom();
        Check.due("find(3, false) of a new one", y.find(3, false), 0);
        Check.due("find(3, true) of a new one", y.find(3, true), 5);
        Check.due("like(3) of a new one", y.like(3), 6);
        Check.due("ahead(3) of a new one", y.ahead(3), 0);
    }

    private static void wrongCells() {
        Addressloom x = new Addressloom();
        for (int no : Check.NO_CELLS) {
            String at = " with " + no;
            Check.dueThrowAndStay("relativeText" + at, Check.INDEX, x, () -> x.relativeText(no, 0));
            Check.dueThrowAndStay("relativeText given" + at, Check.INDEX, x, () -> x.relativeText(0, no));
            Check.dueThrowAndStay("areEqual" + at, Check.INDEX, x, () -> x.areEqual(no, 0, 0));
            Check.dueThrowAndStay("areEqual other" + at, Check.INDEX, x, () -> x.areEqual(0, no, 1));
            Check.dueThrowAndStay("order" + at, Check.INDEX, x, () -> x.order(no, 0, 0));
            Check.dueThrowAndStay("order other" + at, Check.INDEX, x, () -> x.order(0, no, 1));
            Check.dueThrowAndStay("oneHash" + at, Check.INDEX, x, () -> x.oneHash(no, 0));
            Check.dueThrowAndStay("oneHash other" + at, Check.INDEX, x, () -> x.oneHash(0, no));
            Check.dueThrowAndStay("find" + at, Check.INDEX, x, () -> x.find(no, false));
            Check.dueThrowAndStay("like" + at, Check.INDEX, x, () -> x.like(no));
            Check.dueThrowAndStay("ahead" + at, Check.INDEX, x, () -> x.ahead(no));
        }
    }
}
