import java.net.URI;
import java.net.URISyntaxException;
import java.util.ArrayList;
import java.util.Comparator;
import java.util.List;
import java.util.Locale;

/**
 * Promises 1 to 48 in long mixed runs: every answer is held against a model whose cells are addresses of the
 * Java library (what the document leaves open of relative ones is the model's own).
 */
final class LibraryTest {
    private static final int RUNS = 4000;
    /** With the questions behind them these stay under the 512 calls that an object is promised for. */
    private static final int CALLS = 60;

    private long seed;
    private Addressloom x;
    private final int[] numbers = new int[7];
    private final List<Integer> pieces = new ArrayList<>();
    private final URI[] cells = new URI[6];
    private int draftActs;
    private int cellActs;
    private int refusals;
    private int faulty;
    private String lastFaulty;

    public static void main(String[] args) {
        for (int run = 1; run <= RUNS; run++) {
            new LibraryTest(run).run();
        }
        Check.end("LibraryTest");
    }

    private LibraryTest(int run) {
        seed = run;
        x = new Addressloom();
        lastFaulty = "";
        for (int cell = 0; cell < 6; cell++) {
            cells[cell] = URI.create("/");
        }
    }

    /** The same row of numbers in each run of the test. */
    private int pick(int bound) {
        seed = seed * 6364136223846793005L + 1442695040888963407L;
        return (int) ((seed >>> 33) % bound);
    }

    private void run() {
        boolean isTame = pick(2) == 0;
        for (int call = 0; call < CALLS; call++) {
            if (pick(3) > 0) {
                actOnDraft(isTame);
            } else {
                actOnCells();
            }
            if (pick(4) == 0) {
                weave();
            }
        }
        askAll();
    }

    private int set(int what, int to) {
        int was = numbers[what];
        numbers[what] = to;
        draftActs++;
        return was;
    }

    private void actOnDraft(boolean isTame) {
        int which;
        switch (pick(12)) {
            case 0:
                which = pick(isTame ? 3 : 6);
                Check.due("scheme", x.scheme(which), set(0, which));
                break;
            case 1:
                which = pick(isTame ? 3 : 13);
                Check.due("authority", x.authority(which), set(1, which));
                break;
            case 2:
                which = pick(4) == 0 ? 0 : 1;
                Check.due("rooted", x.rooted(which == 1), set(2, which) == 1);
                break;
            case 3:
                which = pick(2);
                Check.due("ended", x.ended(which == 1), set(4, which) == 1);
                break;
            case 4:
                which = pick(isTame ? 2 : 7);
                Check.due("query", x.query(which), set(5, which));
                break;
            case 5:
                which = pick(isTame ? 2 : 6);
                Check.due("fragment", x.fragment(which), set(6, which));
                break;
            case 6:
                unpiece();
                break;
            default:
                which = pick(10) < 4 ? pick(3) : pick(pick(8) == 0 ? 13 : 11);
                if (pieces.size() < 8) {
                    pieces.add(which);
                    draftActs++;
                    Check.due("piece", x.piece(which), pieces.size());
                } else {
                    refusals++;
                    Check.due("piece", x.piece(which), -9);
                }
        }
    }

    private void unpiece() {
        draftActs++;
        if (pick(8) == 0) {
            Check.due("wipe", x.wipe(), pieces.size());
            pieces.clear();
            java.util.Arrays.fill(numbers, 0);
            return;
        }
        int many = pick(9);
        for (int i = 0; i < many && !pieces.isEmpty(); i++) {
            pieces.remove(pieces.size() - 1);
        }
        Check.due("unpiece", x.unpiece(many), pieces.size());
    }

    private String draft() {
        List<String> texts = new ArrayList<>();
        for (int piece : pieces) {
            texts.add(Check.Told.PIECES[piece]);
        }
        String scheme = Check.Told.SCHEMES[numbers[0]];
        String authority = Check.Told.AUTHORITIES[numbers[1]];
        String query = Check.Told.QUERIES[numbers[5]];
        String fragment = Check.Told.FRAGMENTS[numbers[6]];
        return (scheme == null ? "" : scheme + ":") + (authority == null ? "" : "//" + authority)
                + (numbers[2] == 1 ? "/" : "") + String.join("/", texts)
                + (numbers[4] == 1 && !texts.isEmpty() ? "/" : "")
                + (query == null ? "" : "?" + query) + (fragment == null ? "" : "#" + fragment);
    }

    private boolean isLet() {
        boolean isBare = numbers[2] == 0 && !pieces.isEmpty();
        boolean isGlued = isBare && numbers[1] != 0;
        boolean isMistaken = isBare && numbers[0] == 0 && numbers[1] == 0 && pieces.get(0) == 8;
        return !draft().isEmpty() && !isGlued && !isMistaken;
    }

    private void weave() {
        int cell = pick(6);
        String told = draft();
        Check.due("draft", x.draft(), told);
        Check.due("isLet of " + told, x.isLet(), isLet());
        if (!isLet()) {
            Check.dueThrow("weave of " + told, Check.STATE, () -> x.weave(cell));
            return;
        }
        try {
            Check.due("weave of " + told, x.weave(cell), put(cell, new URI(told)));
        } catch (URISyntaxException e) {
            Check.due("weave of " + told, x.text(cell), cells[cell].toString());
            refusals++;
            faulty++;
            lastFaulty = told;
        }
    }

    private int put(int cell, URI one) {
        int changed = cells[cell].equals(one) ? 0 : 1;
        cells[cell] = one;
        cellActs++;
        return changed;
    }

    private int refuse() {
        refusals++;
        return -9;
    }

    private void actOnCells() {
        int one = pick(6);
        int other = pick(6);
        int into = pick(6);
        boolean flag = pick(2) == 0;
        switch (pick(16)) {
            case 0:
            case 1:
                Check.due("again", x.again(one, into),
                        cells[one].toString().isEmpty() ? refuse() : put(into, URI.create(cells[one].toString())));
                break;
            case 2:
                Check.due("copy", x.copy(one, into), put(into, cells[one]));
                break;
            case 3:
            case 4:
                swap(one, other);
                break;
            case 5:
            case 6:
            case 7:
                Check.due("normalize", x.normalize(one, into), put(into, cells[one].normalize()));
                break;
            case 8:
                sort(flag);
                break;
            case 9:
                Check.due("best", x.best(flag, into), put(into, best(flag)));
                break;
            case 10:
            case 11:
            case 12:
                URI relative = relative(cells[one], cells[other]);
                Check.due("relativize", x.relativize(one, other, into),
                        relative == null ? refuse() : put(into, relative));
                break;
            default:
                Check.due("oneHash", x.oneHash(one, other), cells[one].equals(cells[other]) ? 1 : refuse());
        }
    }

    private void swap(int one, int other) {
        URI kept = cells[one];
        int changed = put(one, cells[other]);
        cells[other] = kept;
        Check.due("swap", x.swap(one, other), changed);
    }

    private void sort(boolean isFalling) {
        List<URI> sorted = new ArrayList<>(List.of(cells));
        Comparator<URI> order = Comparator.naturalOrder();
        sorted.sort(isFalling ? order.reversed() : order);
        int changed = 0;
        for (int cell = 0; cell < 6; cell++) {
            changed += put(cell, sorted.get(cell));
        }
        cellActs -= 5;
        Check.due("sort", x.sort(isFalling), changed);
    }

    private URI best(boolean isLast) {
        URI best = cells[0];
        for (URI one : cells) {
            if (isLast ? one.compareTo(best) > 0 : one.compareTo(best) < 0) {
                best = one;
            }
        }
        return best;
    }

    private static String none(String part) {
        return part == null ? "-" : part;
    }

    private static String broad(String part) {
        return none(part).toLowerCase(Locale.ROOT);
    }

    /** By the library, but null for what the document leaves open. */
    private static URI relative(URI base, URI given) {
        if (base.isOpaque() || given.isOpaque() || !broad(base.getScheme()).equals(broad(given.getScheme()))) {
            return base.relativize(given);
        }
        if (!none(base.getScheme()).equals(none(given.getScheme()))) {
            return null;
        }
        String ours = none(base.getRawAuthority());
        String theirs = none(given.getRawAuthority());
        if (!ours.equals(theirs)) {
            return ours.equalsIgnoreCase(theirs) ? null : base.relativize(given);
        }
        if (!base.normalize().toString().equals(base.toString())
                || !given.normalize().toString().equals(given.toString())) {
            return null;
        }
        String path = base.getRawPath();
        String whole = given.getRawPath();
        if (!path.equals(whole)) {
            boolean isPlainly = whole.replace("%4A", "%4a").startsWith(path.replace("%4A", "%4a"));
            boolean isInside = whole.startsWith(path);
            boolean hasColon = isInside && whole.substring(path.length()).split("/", -1)[0].contains(":");
            if (!path.endsWith("/") || isPlainly && !isInside || hasColon) {
                return null;
            }
        }
        return base.relativize(given);
    }

    private void askAll() {
        int[] told = {numbers[0], numbers[1], numbers[2], pieces.size(), numbers[4], numbers[5], numbers[6]};
        for (int what = 0; what <= 6; what++) {
            Check.due("ofDraft", x.ofDraft(what), told[what]);
        }
        for (int cell = 0; cell < 6; cell++) {
            askOne(cell, cells[cell]);
            for (int other = 0; other < 6; other++) {
                askTwo(cell, other);
            }
        }
        int[] house = {draftActs, cellActs, refusals, faulty, 0};
        for (int what = 0; what <= 4; what++) {
            Check.due("house(" + what + ")", x.house(what), house[what]);
        }
        Check.due("faulty", x.faulty(), lastFaulty);
        Check.due("isSound", x.isSound(), true);
        Check.due("digest", x.digest(), WholeTest.summed(x));
    }

    private void askOne(int cell, URI one) {
        String of = " of " + one;
        Check.due("text" + of, x.text(cell), one.toString());
        Check.due("schemeOf" + of, x.schemeOf(cell), none(one.getScheme()));
        Check.due("restOf" + of, x.restOf(cell), none(one.getRawSchemeSpecificPart()));
        Check.due("authorityOf" + of, x.authorityOf(cell), none(one.getRawAuthority()));
        Check.due("userOf" + of, x.userOf(cell), none(one.getRawUserInfo()));
        Check.due("hostOf" + of, x.hostOf(cell), none(one.getHost()));
        Check.due("portOf" + of, x.portOf(cell), one.getPort());
        Check.due("pathOf" + of, x.pathOf(cell), none(one.getRawPath()));
        Check.due("queryOf" + of, x.queryOf(cell), none(one.getRawQuery()));
        Check.due("fragmentOf" + of, x.fragmentOf(cell), none(one.getRawFragment()));
        Check.due("isAbsolute" + of, x.isAbsolute(cell), one.isAbsolute());
        Check.due("isOpaque" + of, x.isOpaque(cell), one.isOpaque());
        Check.due("normalText" + of, x.normalText(cell), one.normalize().toString());
        Check.due("isNormal" + of, x.isNormal(cell), one.normalize().toString().equals(one.toString()));
        int first = -1;
        int last = -1;
        int like = 0;
        int ahead = 0;
        for (int other = 0; other < 6; other++) {
            if (one.equals(cells[other])) {
                first = first < 0 ? other : first;
                last = other;
                like++;
            }
            ahead += cells[other].compareTo(one) < 0 ? 1 : 0;
        }
        Check.due("find" + of, x.find(cell, false), first);
        Check.due("find from the end" + of, x.find(cell, true), last);
        Check.due("like" + of, x.like(cell), like);
        Check.due("ahead" + of, x.ahead(cell), ahead);
    }

    private void askTwo(int one, int other) {
        URI first = cells[one];
        URI second = cells[other];
        String of = " of " + first + " and " + second;
        Check.due("areEqual" + of, x.areEqual(one, other, pick(2)), first.equals(second));
        Check.due("order" + of, x.order(one, other, pick(2)), Integer.signum(first.compareTo(second)));
        URI relative = relative(first, second);
        Check.due("relativeText" + of, x.relativeText(one, other), relative == null ? "-" : relative.toString());
    }
}
