import java.util.ArrayList;
import java.util.List;

/** Promises 22 to 36: what is asked of one address. */
final class PartsTest {
    public static void main(String[] args) {
        opaques();
        roofed();
        servers();
        normals();
        others();
        wrongCells();
        Check.end("PartsTest");
    }

    /** Parts in the sequence text, scheme, rest, authority, user, host, port, path, query, fragment. */
    private static void parts(Addressloom x, int cell, Object... want) {
        List<Object> got = new ArrayList<>(List.of(x.text(cell), x.schemeOf(cell), x.restOf(cell),
                x.authorityOf(cell), x.userOf(cell), x.hostOf(cell), x.portOf(cell), x.pathOf(cell)));
        got.add(x.queryOf(cell));
        got.add(x.fragmentOf(cell));
        Check.due("parts of " + x.text(cell), got, List.of(want));
        Check.due("isAbsolute of " + x.text(cell), x.isAbsolute(cell), !want[1].equals("-"));
    }

    private static void opaques() {
        Addressloom x = new Addressloom();
        Check.weave(x, 0, 1, 0, "a/b", 0, 0);
        parts(x, 0, "http:a/b", "http", "a/b", "-", "-", "-", -1, "-", "-", "-");
        Check.due("isOpaque(0)", x.isOpaque(0), true);
        Check.weave(x, 1, 3, 0, "", 2, 0);
        parts(x, 1, "s:?x=1", "s", "?x=1", "-", "-", "-", -1, "-", "-", "-");
        Check.due("isOpaque(1)", x.isOpaque(1), true);
        Check.weave(x, 2, 4, 0, "d:e/./", 6, 1);
        parts(x, 2, "z+1.-:d:e/./?a/../b#", "z+1.-", "d:e/./?a/../b", "-", "-", "-", -1, "-", "-", "");
        Check.due("isOpaque(2)", x.isOpaque(2), true);
        Check.due("isNormal(2)", x.isNormal(2), true);
        Check.due("normalText(2)", x.normalText(2), "z+1.-:d:e/./?a/../b#");
        Check.weave(x, 3, 3, 0, "/", 0, 0);
        Check.due("isOpaque(3)", x.isOpaque(3), false);
        Check.weave(x, 3, 3, 1, "", 0, 0);
        Check.due("isOpaque(3)", x.isOpaque(3), false);
        Check.weave(x, 3, 0, 0, "a", 0, 0);
        Check.due("isOpaque(3)", x.isOpaque(3), false);
    }

    private static void roofed() {
        Addressloom x = new Addressloom();
        parts(x, 5, "/", "-", "/", "-", "-", "-", -1, "/", "-", "-");
        Check.weave(x, 0, 0, 0, "", 1, 0);
        parts(x, 0, "?", "-", "?", "-", "-", "-", -1, "", "", "-");
        Check.weave(x, 0, 0, 0, "", 0, 1);
        parts(x, 0, "#", "-", "", "-", "-", "-", -1, "", "-", "");
        Check.weave(x, 0, 0, 0, "", 6, 5);
        parts(x, 0, "?a/../b#%4A", "-", "?a/../b", "-", "-", "-", -1, "", "a/../b", "%4A");
        Check.weave(x, 0, 2, 0, "/./d:e/", 3, 3);
        parts(x, 0, "HTTP:/./d:e/?X=1#F", "HTTP", "/./d:e/?X=1", "-", "-", "-", -1, "/./d:e/", "X=1", "F");
        Check.weave(x, 0, 0, 0, "./d:e", 0, 0);
        parts(x, 0, "./d:e", "-", "./d:e", "-", "-", "-", -1, "./d:e", "-", "-");
        Check.weave(x, 0, 0, 7, "", 6, 0);
        parts(x, 0, "//c?a/../b", "-", "//c?a/../b", "c", "-", "c", -1, "", "a/../b", "-");
        Check.weave(x, 0, 1, 7, "", 0, 4);
        parts(x, 0, "http://c#%4a", "http", "//c", "c", "-", "c", -1, "", "-", "%4a");
    }

    private static void servers() {
        Addressloom x = new Addressloom();
        String[] users = {"-", "-", "-", "-", "u", "U", "-", "-", "-", "-", "-"};
        String[] hosts = {"a.b", "A.b", "a.b", "a.b", "a.b", "A.B", "c", "-", "-", "-", "-"};
        int[] ports = {-1, -1, 8, 80, -1, -1, -1, -1, -1, -1, -1};
        for (int which = 1; which <= 11; which++) {
            String whole = Check.Told.AUTHORITIES[which];
            Check.weave(x, 1, 0, which, "/d:e", 0, 0);
            parts(x, 1, "//" + whole + "/d:e", "-", "//" + whole + "/d:e", whole,
                    users[which - 1], hosts[which - 1], ports[which - 1], "/d:e", "-", "-");
        }
    }

    private static void normal(String path, String want) {
        Addressloom x = new Addressloom();
        Check.weavePath(x, 0, path);
        Check.due("normalText of " + path, x.normalText(0), want);
        Check.due("isNormal of " + path, x.isNormal(0), path.equals(want));
        x.normalize(0, 1);
        Check.due("normalText twice of " + path, x.normalText(1), want);
        Check.due("isNormal of the normal form of " + path, x.isNormal(1), true);
        Check.due("text(0) stays", x.text(0), path);
        if (path.startsWith("/")) {
            Check.weave(x, 2, 2, 6, path, 6, 4);
            Check.due("normalText with all parts of " + path, x.normalText(2),
                    "HTTP://U@A.B" + want + "?a/../b#%4a");
        } else {
            Check.weave(x, 2, 0, 0, path, 6, 4);
            Check.due("normalText with query and fragment of " + path, x.normalText(2), want + "?a/../b#%4a");
        }
    }

    private static void normals() {
        normal("/", "/");
        normal("a", "a");
        normal("a/", "a/");
        normal("/a/b/", "/a/b/");
        normal(".", "");
        normal("./", "");
        normal("/.", "/");
        normal("/./", "/");
        normal("..", "..");
        normal("../", "../");
        normal("/..", "/..");
        normal("/../", "/../");
        normal("a/.", "a/");
        normal("a/./", "a/");
        normal("a/b/..", "a/");
        normal("a/b/../", "a/");
        normal("a/..", "");
        normal("a/../", "");
        normal("/a/..", "/");
        normal("/a/../", "/");
        normal("../.", "../");
        normal("../a/..", "../");
        normal("../..", "../..");
        normal("../../", "../../");
        normal("a/../..", "..");
        normal("a/../../", "../");
        normal("a/b/../..", "");
        normal("a/b/../../..", "..");
        normal("a/b/../A", "a/A");
        normal("a/b/../A/", "a/A/");
        normal("/../a/../b", "/../b");
        normal("/a/../../b", "/../b");
        normal("a/./../b", "b");
        normal("././a", "a");
        normal("a/././.", "a/");
        normal("%2e/%2e", "%2e/%2e");
        normal(".../..", "");
        normal("a/...", "a/...");
        normal(".../.../..", ".../");
        normal("./d:e", "./d:e");
        normal("./d:e/", "./d:e/");
        normal("././d:e", "./d:e");
        normal("./d:e/.", "./d:e/");
        normal("./d:e/..", "");
        normal("a/../d:e", "./d:e");
        normal("a/../d:e/b/..", "./d:e/");
        normal("../d:e", "../d:e");
        normal("a/d:e", "a/d:e");
        normal("/./d:e", "/d:e");
        normal("/a/../d:e", "/d:e");
        normal("./a/d:e", "a/d:e");
        normal("/a/./b/../../../A/.", "/../A/");
        normal("a/b/A/ab/../../../..", "");
        normal("../../../../../../../..", "../../../../../../../..");
        normal("./d:e/a/b/ab/../../..", "./d:e/");
        Addressloom x = new Addressloom();
        Check.weave(x, 0, 1, 1, "", 0, 0);
        Check.due("normalText of an empty path", x.normalText(0), "http://a.b");
        Check.due("isNormal of an empty path", x.isNormal(0), true);
        Check.weave(x, 0, 0, 0, "", 6, 0);
        Check.due("normalText of a query", x.normalText(0), "?a/../b");
        Check.weave(x, 0, 1, 0, "/a/../d:e", 0, 0);
        Check.due("normalText(0)", x.normalText(0), "http:/d:e");
    }

    private static void others() {
        Addressloom x = new Addressloom();
        for (int cell = 0; cell < 6; cell++) {
            for (int what = 0; what <= 2; what++) {
                Check.due("isOther(" + cell + ", " + what + ")", x.isOther(cell, what), false);
            }
            for (int what : new int[] {-1, 3, Integer.MIN_VALUE, Integer.MAX_VALUE}) {
                int at = cell;
                Check.dueThrow("isOther(" + cell + ", " + what + ")", Check.ARGUMENT, () -> x.isOther(at, what));
            }
        }
        Check.dueThrowAndStay("isOther(6, 3)", Check.INDEX, x, () -> x.isOther(6, 3));
    }

    private static void wrongCells() {
        Addressloom x = new Addressloom();
        for (int no : Check.NO_CELLS) {
            String at = "(" + no + ")";
            Check.dueThrowAndStay("text" + at, Check.INDEX, x, () -> x.text(no));
            Check.dueThrowAndStay("schemeOf" + at, Check.INDEX, x, () -> x.schemeOf(no));
            Check.dueThrowAndStay("restOf" + at, Check.INDEX, x, () -> x.restOf(no));
            Check.dueThrowAndStay("authorityOf" + at, Check.INDEX, x, () -> x.authorityOf(no));
            Check.dueThrowAndStay("userOf" + at, Check.INDEX, x, () -> x.userOf(no));
            Check.dueThrowAndStay("hostOf" + at, Check.INDEX, x, () -> x.hostOf(no));
            Check.dueThrowAndStay("portOf" + at, Check.INDEX, x, () -> x.portOf(no));
            Check.dueThrowAndStay("pathOf" + at, Check.INDEX, x, () -> x.pathOf(no));
            Check.dueThrowAndStay("queryOf" + at, Check.INDEX, x, () -> x.queryOf(no));
            Check.dueThrowAndStay("fragmentOf" + at, Check.INDEX, x, () -> x.fragmentOf(no));
            Check.dueThrowAndStay("isAbsolute" + at, Check.INDEX, x, () -> x.isAbsolute(no));
            Check.dueThrowAndStay("isOpaque" + at, Check.INDEX, x, () -> x.isOpaque(no));
            Check.dueThrowAndStay("isNormal" + at, Check.INDEX, x, () -> x.isNormal(no));
            Check.dueThrowAndStay("normalText" + at, Check.INDEX, x, () -> x.normalText(no));
            Check.dueThrowAndStay("isOther" + at, Check.INDEX, x, () -> x.isOther(no, 0));
        }
    }
}
