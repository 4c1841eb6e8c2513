import java.util.ArrayList;
import java.util.List;
import java.util.Locale;

/**
 * Sections 3 to 5 written out as they stand, held against the program: the normal form of every path up to a
 * length, and what is asked of two for every pair of a wide choice of addresses.
 */
final class FormsTest {
    private static final int LONGEST = 6;
    private static final String[] PIECES = {".", "..", "a", "d:e"};

    /** An address by its parts; null is none. */
    private static final class Parts {
        private final String scheme;
        private final String authority;
        private final String path;
        private final String query;
        private final String fragment;

        private Parts(String scheme, String authority, String path, String query, String fragment) {
            this.scheme = scheme;
            this.authority = authority;
            this.path = path;
            this.query = query;
            this.fragment = fragment;
        }

        private String rest() {
            return (authority == null ? "" : "//" + authority) + path + (query == null ? "" : "?" + query);
        }

        private String whole() {
            return (scheme == null ? "" : scheme + ":") + rest() + (fragment == null ? "" : "#" + fragment);
        }

        private boolean isOpaque() {
            return scheme != null && !rest().startsWith("/");
        }

        private boolean isServer() {
            return authority != null && !authority.startsWith("~");
        }

        private String user() {
            return authority.contains("@") ? authority.substring(0, authority.indexOf('@')) : null;
        }

        private String host() {
            return authority.replaceAll("^.*@|:.*$", "");
        }

        private int port() {
            return authority.contains(":") ? Integer.parseInt(authority.replaceAll("^.*:", "")) : -1;
        }

        private boolean isNormal() {
            return isOpaque() || normal(path).equals(path);
        }
    }

    public static void main(String[] args) {
        Check.sentence("4: the NORMAL FORM");
        paths(new ArrayList<>());
        Check.sentence("3 and 5: what is asked of two");
        pairs(choice());
        Check.end("FormsTest");
    }

    // ---- section 4

    private static void paths(List<String> pieces) {
        normals(pieces);
        if (pieces.size() < LONGEST) {
            for (String piece : PIECES) {
                pieces.add(piece);
                paths(pieces);
                pieces.remove(pieces.size() - 1);
            }
        }
    }

    private static void normals(List<String> pieces) {
        Addressloom x = new Addressloom();
        x.fragment(2);
        for (String piece : pieces) {
            x.piece(Check.Told.number(Check.Told.PIECES, piece));
        }
        for (int flags = 0; flags < 4; flags++) {
            x.rooted(flags % 2 == 1);
            x.ended(flags / 2 == 1);
            if (x.isLet()) {
                x.weave(flags);
                String path = x.pathOf(flags);
                Check.due("normalText of " + path, x.normalText(flags), normal(path) + "#f");
                Check.due("isNormal of " + path, x.isNormal(flags), normal(path).equals(path));
                x.normalize(flags, 5);
                Check.due("text of the NORMAL FORM of " + path, x.text(5), normal(path) + "#f");
                Check.due("pathOf of the NORMAL FORM of " + path, x.pathOf(5), normal(path));
            }
        }
    }

    private static List<String> parted(String path) {
        List<String> pieces = new ArrayList<>();
        for (String piece : path.split("/")) {
            if (!piece.isEmpty()) {
                // one of its own, so that the last one is known again
                pieces.add(new String(piece));
            }
        }
        return pieces;
    }

    private static String normal(String path) {
        List<String> left = parted(path);
        String last = left.isEmpty() ? "" : left.get(left.size() - 1);
        left.removeIf(piece -> piece.equals("."));
        int up = firstUp(left);
        while (up > 0) {
            left.remove(up);
            left.remove(up - 1);
            up = firstUp(left);
        }
        boolean isRooted = path.startsWith("/");
        if (left.isEmpty()) {
            return isRooted ? "/" : "";
        }
        boolean lastWent = left.get(left.size() - 1) != last;
        String ahead = isRooted ? "/" : left.get(0).contains(":") ? "./" : "";
        return ahead + String.join("/", left) + (lastWent || path.endsWith("/") ? "/" : "");
    }

    /** Where the first ".." stands directly behind one that is not; -1 without. */
    private static int firstUp(List<String> pieces) {
        for (int i = 1; i < pieces.size(); i++) {
            if (pieces.get(i).equals("..") && !pieces.get(i - 1).equals("..")) {
                return i;
            }
        }
        return -1;
    }

    // ---- sections 3 and 5

    private static String plain(String text) {
        StringBuilder out = new StringBuilder();
        for (int i = 0; i < text.length(); i++) {
            boolean isBehind = i > 0 && text.charAt(i - 1) == '%' || i > 1 && text.charAt(i - 2) == '%';
            out.append(isBehind ? Character.toLowerCase(text.charAt(i)) : text.charAt(i));
        }
        return out.toString();
    }

    private static String broad(String text) {
        return text.toLowerCase(Locale.ROOT);
    }

    private static int place(String one, String other) {
        if (one == null || other == null) {
            return one == other ? 0 : one == null ? -1 : 1;
        }
        return Integer.signum(one.compareTo(other));
    }

    private static int placePlainly(String one, String other) {
        return place(one == null ? null : plain(one), other == null ? null : plain(other));
    }

    private static int placeBroadly(String one, String other) {
        return place(one == null ? null : broad(one), other == null ? null : broad(other));
    }

    private static int first(int... places) {
        for (int place : places) {
            if (place != 0) {
                return place;
            }
        }
        return 0;
    }

    private static int order(Parts one, Parts other) {
        int kind = Boolean.compare(one.isOpaque(), other.isOpaque());
        int ahead = first(placeBroadly(one.scheme, other.scheme), kind);
        int fragments = placePlainly(one.fragment, other.fragment);
        if (ahead != 0) {
            return ahead;
        }
        if (one.isOpaque()) {
            return first(placePlainly(one.rest(), other.rest()), fragments);
        }
        int authorities = one.isServer() && other.isServer()
                ? first(placePlainly(one.user(), other.user()), placeBroadly(one.host(), other.host()),
                        Integer.compare(one.port(), other.port()))
                : placePlainly(one.authority, other.authority);
        return first(authorities, placePlainly(one.path, other.path), placePlainly(one.query, other.query),
                fragments);
    }

    /** The text of the RELATIVE; "-" if it is LEFT OPEN. */
    private static String relative(Parts base, Parts given) {
        if (base.isOpaque() || given.isOpaque() || placeBroadly(base.scheme, given.scheme) != 0) {
            return given.whole();
        }
        if (place(base.scheme, given.scheme) != 0) {
            return "-";
        }
        if (place(base.authority, given.authority) != 0) {
            boolean isBroadly = base.authority != null && given.authority != null
                    && placeBroadly(base.authority, given.authority) == 0;
            return isBroadly ? "-" : given.whole();
        }
        if (!base.isNormal() || !given.isNormal()) {
            return "-";
        }
        String behind = "";
        if (!base.path.equals(given.path)) {
            if (!base.path.endsWith("/")) {
                return "-";
            }
            if (!given.path.startsWith(base.path)) {
                return plain(given.path).startsWith(plain(base.path)) ? "-" : given.whole();
            }
            behind = given.path.substring(base.path.length());
        }
        boolean hasColon = behind.replaceAll("/.*", "").contains(":");
        return hasColon ? "-" : new Parts(null, null, behind, given.query, given.fragment).whole();
    }

    private static List<Parts> choice() {
        List<Parts> all = new ArrayList<>();
        String[] schemes = {null, "http", "HTTP", "s"};
        for (String scheme : schemes) {
            for (int authority = 0; authority <= 11; authority++) {
                for (String path : new String[] {"", "/", "/a/", "/a/b", "/b/.", "/b/./"}) {
                    add(all, new Parts(scheme, Check.Told.AUTHORITIES[authority], path, null, null));
                }
            }
        }
        String[] paths = {"a", "a/", "a/b", "ab", "A", "A/", "..", "../", "../a", "./d:e", "./d:e/", "./d:e/a",
            "%4a", "%4A", "%4a/", "%4A/", "%4a/a", "%4A/a", "%4A/d:e", "a/d:e", "...", "%2e", "a/..", "a/../"};
        for (String path : paths) {
            for (String ahead : new String[] {"", "/"}) {
                add(all, new Parts(null, null, ahead + path, null, null));
                add(all, new Parts("s", null, ahead + path, null, null));
            }
        }
        for (int query = 0; query <= 6; query++) {
            for (int fragment = 0; fragment <= 5; fragment++) {
                String asked = Check.Told.QUERIES[query];
                String told = Check.Told.FRAGMENTS[fragment];
                add(all, new Parts(null, null, "", asked, told));
                add(all, new Parts("s", "c", "/a", asked, told));
                add(all, new Parts("http", null, "a", asked, told));
            }
        }
        return all;
    }

    /** Without those that no draft gives. */
    private static void add(List<Parts> all, Parts one) {
        boolean isLet = !one.whole().isEmpty() && !(one.scheme != null && one.rest().isEmpty());
        if (isLet) {
            all.add(one);
        }
    }

    private static void weave(Addressloom x, int cell, Parts one) {
        Check.weave(x, cell, Check.Told.number(Check.Told.SCHEMES, one.scheme),
                Check.Told.number(Check.Told.AUTHORITIES, one.authority), one.path,
                Check.Told.number(Check.Told.QUERIES, one.query),
                Check.Told.number(Check.Told.FRAGMENTS, one.fragment));
    }

    /** Three by three, so that each object stays well under 512 calls. */
    private static void pairs(List<Parts> all) {
        for (int from = 0; from < all.size(); from += 3) {
            for (int to = 0; to < all.size(); to += 3) {
                Addressloom x = new Addressloom();
                for (int i = 0; i < 3; i++) {
                    weave(x, i, all.get(Math.min(from + i, all.size() - 1)));
                    weave(x, 3 + i, all.get(Math.min(to + i, all.size() - 1)));
                }
                for (int i = 0; i < 9; i++) {
                    pair(x, i / 3, all.get(Math.min(from + i / 3, all.size() - 1)), 3 + i % 3,
                            all.get(Math.min(to + i % 3, all.size() - 1)));
                }
            }
        }
    }

    private static void pair(Addressloom x, int cell, Parts one, int to, Parts other) {
        String of = " of " + one.whole() + " and " + other.whole();
        int order = order(one, other);
        Check.due("order" + of, x.order(cell, to, 0), order);
        Check.due("areEqual" + of, x.areEqual(cell, to, 1), order == 0);
        Check.due("oneHash" + of, x.oneHash(cell, to), order == 0 ? 1 : -9);
        Check.due("relativeText" + of, x.relativeText(cell, to), relative(one, other));
    }
}
