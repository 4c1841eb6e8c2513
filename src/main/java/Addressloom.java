/**
 * A loom of addresses: parts are drafted one by one out of told tables, woven to addresses, and these are
 * taken apart, held against each other, put in order, brought into normal form, and told as what lies
 * behind another one.
 */
public final class Addressloom {
    private static final int CELLS = 6;
    private static final int MOST_PIECES = 8;
    private static final int LAST_SCHEME = 5;
    private static final int LAST_AUTHORITY = 12;
    private static final int LAST_PIECE = 12;
    private static final int LAST_QUERY = 6;
    private static final int LAST_FRAGMENT = 5;
    private static final int FAULTY_SCHEME = 5;
    private static final int FAULTY_AUTHORITY = 12;
    private static final int FIRST_FAULTY_PIECE = 11;
    private static final int PIECE_WITH_COLON = 8;
    private static final int CANNOT = -9;
    private static final int NO_PORT = -1;

    /** Stands for a part that an address has not; the document says that no part that it has is that. */
    private static final String NONE = "-";

    /** How the signs of two texts are held against each other. */
    private static final int EXACTLY = 0;
    private static final int PLAINLY = 1;
    private static final int BROADLY = 2;

    /** What the relative is when nothing lies behind; else it is told by an index of 0 or more. */
    private static final int GIVEN_ONE = -1;
    private static final int LEFT_OPEN = -2;

    private final Draft drafted;
    private final Address[] cells;
    /** Rows for sort() and isSound(), made once so that these calls need no room of their own. */
    private final Address[] before;
    private final Address[] normalForms;
    private final int[] orders;
    private final StringBuilder joined;
    private int draftActs;
    private int cellActs;
    private int refusals;
    private int faultyWeaves;
    private int knocks;
    private String lastFaulty;

    public Addressloom() {
        drafted = new Draft();
        cells = new Address[CELLS];
        before = new Address[CELLS];
        normalForms = new Address[CELLS];
        orders = new int[CELLS * CELLS];
        joined = new StringBuilder();
        lastFaulty = "";
        Address root = new Address("/");
        for (int cell = 0; cell < CELLS; cell++) {
            cells[cell] = root;
            before[cell] = root;
            normalForms[cell] = root;
        }
    }

    // ---- the draft

    public int scheme(int which) throws IllegalArgumentException {
        requireNumber(which, LAST_SCHEME);
        int was = drafted.scheme;
        drafted.scheme = which;
        draftActs++;
        return was;
    }

    public int authority(int which) throws IllegalArgumentException {
        requireNumber(which, LAST_AUTHORITY);
        int was = drafted.authority;
        drafted.authority = which;
        draftActs++;
        return was;
    }

    public boolean rooted(boolean is) {
        boolean was = drafted.isRooted;
        drafted.isRooted = is;
        draftActs++;
        return was;
    }

    public int piece(int which) throws IllegalArgumentException {
        requireNumber(which, LAST_PIECE);
        if (drafted.size >= MOST_PIECES) {
            return refuse();
        }
        drafted.pieces[drafted.size] = which;
        drafted.size++;
        draftActs++;
        return drafted.size;
    }

    public int unpiece(int many) throws IllegalArgumentException {
        requireNumber(many, MOST_PIECES);
        drafted.size = Math.max(0, drafted.size - many);
        draftActs++;
        return drafted.size;
    }

    public boolean ended(boolean is) {
        boolean was = drafted.isEnded;
        drafted.isEnded = is;
        draftActs++;
        return was;
    }

    public int query(int which) throws IllegalArgumentException {
        requireNumber(which, LAST_QUERY);
        int was = drafted.query;
        drafted.query = which;
        draftActs++;
        return was;
    }

    public int fragment(int which) throws IllegalArgumentException {
        requireNumber(which, LAST_FRAGMENT);
        int was = drafted.fragment;
        drafted.fragment = which;
        draftActs++;
        return was;
    }

    public int wipe() {
        int had = drafted.size;
        drafted.clear();
        draftActs++;
        return had;
    }

    public String draft() {
        return drafted.whole();
    }

    public boolean isLet() {
        return drafted.mayBeWoven();
    }

    public int ofDraft(int what) throws IllegalArgumentException {
        requireNumber(what, 6);
        return drafted.told(what);
    }

    // ---- cells: addresses come

    public int weave(int cell) throws IndexOutOfBoundsException, IllegalStateException {
        requireCell(cell);
        requireLet();
        if (drafted.hasFault()) {
            faultyWeaves++;
            lastFaulty = drafted.whole();
            return refuse();
        }
        return put(cell, new Address(drafted.whole()));
    }

    public int again(int cell, int into) throws IndexOutOfBoundsException {
        Address one = at(cell);
        requireCell(into);
        if (one.whole.isEmpty()) {
            return refuse();
        }
        return put(into, new Address(one.whole));
    }

    public int copy(int cell, int into) throws IndexOutOfBoundsException {
        Address one = at(cell);
        requireCell(into);
        return put(into, one);
    }

    public int swap(int cell, int other) throws IndexOutOfBoundsException {
        Address one = at(cell);
        Address two = at(other);
        cells[cell] = two;
        cells[other] = one;
        cellActs++;
        return Holding.areAlike(one, two) ? 0 : 1;
    }

    public int normalize(int cell, int into) throws IndexOutOfBoundsException {
        Address one = at(cell);
        requireCell(into);
        return put(into, one.normalForm());
    }

    public int relativize(int base, int given, int into) throws IndexOutOfBoundsException {
        Address from = at(base);
        Address to = at(given);
        requireCell(into);
        int behind = Relatives.behind(from, to);
        if (behind == LEFT_OPEN) {
            return refuse();
        }
        return put(into, behind == GIVEN_ONE ? to : new Address(to.wholeFrom(behind)));
    }

    public int sort(boolean isFalling) {
        for (int cell = 0; cell < CELLS; cell++) {
            before[cell] = cells[cell];
        }
        for (int cell = 1; cell < CELLS; cell++) {
            sink(cell, isFalling);
        }
        cellActs++;
        int changed = 0;
        for (int cell = 0; cell < CELLS; cell++) {
            changed += Holding.areAlike(before[cell], cells[cell]) ? 0 : 1;
        }
        return changed;
    }

    public int best(boolean isLast, int into) throws IndexOutOfBoundsException {
        requireCell(into);
        Address found = cells[0];
        for (int cell = 1; cell < CELLS; cell++) {
            if (goesAhead(cells[cell], found, isLast)) {
                found = cells[cell];
            }
        }
        return put(into, found);
    }

    // ---- what is asked of one

    public String text(int cell) throws IndexOutOfBoundsException {
        return at(cell).whole;
    }

    public String schemeOf(int cell) throws IndexOutOfBoundsException {
        return at(cell).scheme;
    }

    public String restOf(int cell) throws IndexOutOfBoundsException {
        return at(cell).rest;
    }

    public String authorityOf(int cell) throws IndexOutOfBoundsException {
        return at(cell).authority;
    }

    public String userOf(int cell) throws IndexOutOfBoundsException {
        return at(cell).user;
    }

    public String hostOf(int cell) throws IndexOutOfBoundsException {
        return at(cell).host;
    }

    public int portOf(int cell) throws IndexOutOfBoundsException {
        return at(cell).port;
    }

    public String pathOf(int cell) throws IndexOutOfBoundsException {
        return at(cell).path;
    }

    public String queryOf(int cell) throws IndexOutOfBoundsException {
        return at(cell).query;
    }

    public String fragmentOf(int cell) throws IndexOutOfBoundsException {
        return at(cell).fragment;
    }

    public boolean isAbsolute(int cell) throws IndexOutOfBoundsException {
        return Texts.isThere(at(cell).scheme);
    }

    public boolean isOpaque(int cell) throws IndexOutOfBoundsException {
        return at(cell).isOpaque;
    }

    public boolean isNormal(int cell) throws IndexOutOfBoundsException {
        return at(cell).isInNormalForm();
    }

    public String normalText(int cell) throws IndexOutOfBoundsException {
        return at(cell).normalWhole;
    }

    public boolean isOther(int cell, int what) throws IndexOutOfBoundsException, IllegalArgumentException {
        requireCell(cell);
        requireNumber(what, 2);
        return false;
    }

    // ---- what is asked of two, and of all

    public String relativeText(int base, int given) throws IndexOutOfBoundsException {
        return Relatives.told(at(base), at(given));
    }

    public boolean areEqual(int one, int other, int how) throws IndexOutOfBoundsException, IllegalArgumentException {
        Address first = at(one);
        Address second = at(other);
        requireNumber(how, 1);
        return Holding.areAlike(first, second);
    }

    public int order(int one, int other, int how) throws IndexOutOfBoundsException, IllegalArgumentException {
        Address first = at(one);
        Address second = at(other);
        requireNumber(how, 1);
        return Holding.place(first, second);
    }

    public int oneHash(int one, int other) throws IndexOutOfBoundsException {
        Address first = at(one);
        Address second = at(other);
        if (!Holding.areAlike(first, second)) {
            return refuse();
        }
        return Holding.hash(first) == Holding.hash(second) ? 1 : 0;
    }

    public int find(int cell, boolean isLast) throws IndexOutOfBoundsException {
        return found(at(cell), isLast);
    }

    public int like(int cell) throws IndexOutOfBoundsException {
        return countAlike(at(cell));
    }

    public int ahead(int cell) throws IndexOutOfBoundsException {
        return countAhead(at(cell));
    }

    // ---- the whole

    public int house(int what) throws IllegalArgumentException {
        requireNumber(what, 4);
        return counted(what);
    }

    public String faulty() {
        return lastFaulty;
    }

    public int knock() {
        knocks++;
        return knocks;
    }

    public boolean isSound() {
        boolean isSo = true;
        for (int cell = 0; cell < CELLS; cell++) {
            normalForms[cell] = cells[cell].normalForm();
            isSo = isSo && isCellSound(cells[cell], normalForms[cell]);
        }
        for (int one = 0; one < CELLS; one++) {
            for (int other = 0; other < CELLS; other++) {
                orders[one * CELLS + other] = Holding.place(cells[one], cells[other]);
            }
        }
        for (int one = 0; one < CELLS && isSo; one++) {
            for (int other = 0; other < CELLS && isSo; other++) {
                isSo = isPairSound(one, other) && areThreesSound(one, other);
            }
        }
        return isSo;
    }

    public long digest() {
        long sum = 7677;
        for (int what = 0; what <= 6; what++) {
            sum = mixed(sum, drafted.told(what));
        }
        sum = mixed(sum, drafted.whole());
        for (int cell = 0; cell < CELLS; cell++) {
            sum = mixedCell(sum, cells[cell]);
        }
        for (int one = 0; one < CELLS; one++) {
            for (int other = 0; other < CELLS; other++) {
                if (one != other) {
                    sum = mixed(sum, Holding.place(cells[one], cells[other]));
                    sum = mixedRelative(sum, cells[one], cells[other]);
                }
            }
        }
        for (int what = 0; what <= 4; what++) {
            sum = mixed(sum, counted(what));
        }
        return mixed(sum, isSound() ? 1 : 0);
    }

    // ---- what calls are let

    private static void requireNumber(int number, int last) {
        if (number < 0 || number > last) {
            throw new IllegalArgumentException("there is no such number");
        }
    }

    private static void requireCell(int cell) {
        if (cell < 0 || cell >= CELLS) {
            throw new IndexOutOfBoundsException("there is no such cell");
        }
    }

    private void requireLet() {
        if (!drafted.mayBeWoven()) {
            throw new IllegalStateException("the draft is not let");
        }
    }

    private int refuse() {
        refusals++;
        return CANNOT;
    }

    // ---- cells

    private Address at(int cell) {
        requireCell(cell);
        return cells[cell];
    }

    private int put(int into, Address comes) {
        int changed = Holding.areAlike(cells[into], comes) ? 0 : 1;
        cells[into] = comes;
        cellActs++;
        return changed;
    }

    private static boolean goesAhead(Address one, Address other, boolean isFalling) {
        int place = Holding.place(one, other);
        return isFalling ? place > 0 : place < 0;
    }

    /** Brings what a cell has to its place among the cells before, which are sorted already. */
    private void sink(int cell, boolean isFalling) {
        Address one = cells[cell];
        int place = cell;
        while (place > 0 && goesAhead(one, cells[place - 1], isFalling)) {
            cells[place] = cells[place - 1];
            place--;
        }
        cells[place] = one;
    }

    private int found(Address one, boolean isLast) {
        int place = 0;
        for (int cell = CELLS - 1; cell >= 0; cell--) {
            if (Holding.areAlike(one, cells[cell])) {
                if (isLast) {
                    return cell;
                }
                place = cell;
            }
        }
        return place;
    }

    private int countAlike(Address one) {
        int count = 0;
        for (int cell = 0; cell < CELLS; cell++) {
            count += Holding.areAlike(one, cells[cell]) ? 1 : 0;
        }
        return count;
    }

    private int countAhead(Address one) {
        int count = 0;
        for (int cell = 0; cell < CELLS; cell++) {
            count += Holding.place(cells[cell], one) < 0 ? 1 : 0;
        }
        return count;
    }

    private int counted(int what) {
        switch (what) {
            case 0:
                return draftActs;
            case 1:
                return cellActs;
            case 2:
                return refusals;
            case 3:
                return faultyWeaves;
            default:
                return knocks;
        }
    }

    // ---- soundness

    private boolean isCellSound(Address one, Address normalForm) {
        joined.setLength(0);
        Texts.joinWhole(joined, one.scheme, one.rest, one.fragment);
        if (!Texts.isJoined(joined, one.whole)) {
            return false;
        }
        if (!one.isOpaque) {
            joined.setLength(0);
            Texts.joinRest(joined, one.authority, one.path, one.query);
            if (!Texts.isJoined(joined, one.rest)) {
                return false;
            }
        }
        if (!normalForm.normalWhole.equals(normalForm.whole)) {
            return false;
        }
        return one.whole.isEmpty() || Holding.areAlike(new Address(one.whole), one);
    }

    private boolean isPairSound(int one, int other) {
        boolean areAlike = Holding.areAlike(cells[one], cells[other]);
        int place = orders[one * CELLS + other];
        if (areAlike != Holding.areAlike(cells[other], cells[one])
                || areAlike != (place == 0) || place != -orders[other * CELLS + one]) {
            return false;
        }
        return !areAlike || Holding.hash(cells[one]) == Holding.hash(cells[other])
                && Holding.areAlike(normalForms[one], normalForms[other]);
    }

    private boolean areThreesSound(int one, int other) {
        for (int third = 0; third < CELLS; third++) {
            boolean isChain = orders[one * CELLS + other] < 0 && orders[other * CELLS + third] < 0;
            if (isChain && orders[one * CELLS + third] >= 0) {
                return false;
            }
        }
        return true;
    }

    // ---- the checksum

    private static long mixed(long sum, long value) {
        return sum * 31 + value;
    }

    private static long mixed(long sum, String text) {
        return mixedFrom(sum, text, 0);
    }

    private static long mixedFrom(long sum, String text, int from) {
        long all = mixed(sum, text.length() - from);
        for (int i = Math.max(0, from); i < text.length(); i++) {
            all = mixed(all, text.charAt(i));
        }
        return all;
    }

    /** Out of the given one's text, since each relative text made anew would take room of its own. */
    private static long mixedRelative(long sum, Address base, Address given) {
        int behind = Relatives.behind(base, given);
        if (behind == LEFT_OPEN) {
            return mixed(sum, NONE);
        }
        return mixedFrom(sum, given.whole, behind == GIVEN_ONE ? 0 : given.pathAt + behind);
    }

    private long mixedCell(long sum, Address one) {
        long all = mixed(sum, one.whole);
        all = mixed(all, one.rest);
        all = mixed(all, one.path);
        all = mixed(all, one.host);
        all = mixed(all, one.port);
        all = mixed(all, one.normalWhole);
        all = mixed(all, one.isOpaque ? 1 : 0);
        all = mixed(all, found(one, false));
        all = mixed(all, countAlike(one));
        return mixed(all, countAhead(one));
    }

    /** The told tables: the text of each number, NONE for the number of none. */
    private static final class Tables {
        private static String schemeText(int number) {
            switch (number) {
                case 1:
                    return "http";
                case 2:
                    return "HTTP";
                case 3:
                    return "s";
                case 4:
                    return "z+1.-";
                case 5:
                    return "1a";
                default:
                    return NONE;
            }
        }

        private static String authorityText(int number) {
            switch (number) {
                case 1:
                    return "a.b";
                case 2:
                    return "A.b";
                case 3:
                    return "a.b:8";
                case 4:
                    return "a.b:80";
                case 5:
                    return "u@a.b";
                case 6:
                    return "U@A.B";
                case 7:
                    return "c";
                case 8:
                    return "~a";
                case 9:
                    return "~A";
                case 10:
                    return "~%4a";
                case 11:
                    return "~%4A";
                case 12:
                    return "a^b";
                default:
                    return NONE;
            }
        }

        private static String pieceText(int number) {
            switch (number) {
                case 1:
                    return "..";
                case 2:
                    return "a";
                case 3:
                    return "b";
                case 4:
                    return "A";
                case 5:
                    return "ab";
                case 6:
                    return "%4a";
                case 7:
                    return "%4A";
                case 8:
                    return "d:e";
                case 9:
                    return "...";
                case 10:
                    return "%2e";
                case 11:
                    return "^";
                case 12:
                    return "%g1";
                default:
                    return ".";
            }
        }

        private static String queryText(int number) {
            switch (number) {
                case 1:
                    return "";
                case 2:
                    return "x=1";
                case 3:
                    return "X=1";
                case 4:
                    return "%4a";
                case 5:
                    return "%4A";
                case 6:
                    return "a/../b";
                default:
                    return NONE;
            }
        }

        private static String fragmentText(int number) {
            switch (number) {
                case 1:
                    return "";
                case 2:
                    return "f";
                case 3:
                    return "F";
                case 4:
                    return "%4a";
                case 5:
                    return "%4A";
                default:
                    return NONE;
            }
        }
    }

    /** The parts that are drafted, by their numbers in the tables. */
    private static final class Draft {
        private int scheme;
        private int authority;
        private boolean isRooted;
        private final int[] pieces = new int[MOST_PIECES];
        private int size;
        private boolean isEnded;
        private int query;
        private int fragment;

        private void clear() {
            scheme = 0;
            authority = 0;
            isRooted = false;
            size = 0;
            isEnded = false;
            query = 0;
            fragment = 0;
        }

        private int told(int what) {
            switch (what) {
                case 0:
                    return scheme;
                case 1:
                    return authority;
                case 2:
                    return isRooted ? 1 : 0;
                case 3:
                    return size;
                case 4:
                    return isEnded ? 1 : 0;
                case 5:
                    return query;
                default:
                    return fragment;
            }
        }

        private String whole() {
            StringBuilder out = new StringBuilder();
            String rest = restText(out);
            out.setLength(0);
            Texts.joinWhole(out, Tables.schemeText(scheme), rest, Tables.fragmentText(fragment));
            return out.toString();
        }

        private String restText(StringBuilder out) {
            addPath(out);
            String path = out.toString();
            out.setLength(0);
            Texts.joinRest(out, Tables.authorityText(authority), path, Tables.queryText(query));
            return out.toString();
        }

        private void addPath(StringBuilder out) {
            if (isRooted) {
                out.append('/');
            }
            for (int i = 0; i < size; i++) {
                if (i > 0) {
                    out.append('/');
                }
                out.append(Tables.pieceText(pieces[i]));
            }
            if (isEnded && size > 0) {
                out.append('/');
            }
        }

        private boolean hasRest() {
            return authority != 0 || isRooted || size > 0 || query != 0;
        }

        private boolean mayBeWoven() {
            if (scheme == 0 && !hasRest() && fragment == 0) {
                return false;
            }
            if (size == 0 || isRooted) {
                return true;
            }
            // Without a scheme ahead, the colon of a first piece would be read as the end of one.
            return authority == 0 && (scheme != 0 || pieces[0] != PIECE_WITH_COLON);
        }

        private boolean hasFault() {
            boolean isFaulty = scheme == FAULTY_SCHEME || authority == FAULTY_AUTHORITY || scheme != 0 && !hasRest();
            for (int i = 0; i < size; i++) {
                isFaulty = isFaulty || pieces[i] >= FIRST_FAULTY_PIECE;
            }
            return isFaulty;
        }
    }

    /** An address, read from its text. It never changes, so several cells may have the same one. */
    private static final class Address {
        private final String whole;
        private final String scheme;
        private final String rest;
        private final String fragment;
        private final boolean isOpaque;
        private final String authority;
        private final String user;
        private final String host;
        private final int port;
        private final String path;
        private final String query;
        /** Where the path begins in the whole text. */
        private final int pathAt;
        private final String normalWhole;

        private Address(String text) {
            whole = text;
            int hash = text.indexOf('#');
            int restEnd = hash < 0 ? text.length() : hash;
            int restAt = Texts.colonAhead(text, 0) + 1;
            fragment = hash < 0 ? NONE : text.substring(hash + 1);
            scheme = restAt == 0 ? NONE : text.substring(0, restAt - 1);
            rest = text.substring(restAt, restEnd);
            isOpaque = restAt > 0 && !Texts.beginsWith(rest, '/');

            int mark = rest.indexOf('?');
            int pathEnd = mark < 0 ? rest.length() : mark;
            int authorityEnd = Texts.endOfAuthority(rest, pathEnd);
            authority = authorityEnd == 0 ? NONE : rest.substring(2, authorityEnd);
            path = isOpaque ? NONE : rest.substring(authorityEnd, pathEnd);
            query = isOpaque || mark < 0 ? NONE : rest.substring(mark + 1);
            pathAt = restAt + authorityEnd;

            boolean isServer = Texts.isThere(authority) && !Texts.beginsWith(authority, '~');
            int at = authority.indexOf('@');
            int colon = authority.indexOf(':');
            user = !isServer || at < 0 ? NONE : authority.substring(0, at);
            host = !isServer ? NONE : authority.substring(at + 1, colon <= at ? authority.length() : colon);
            port = !isServer || colon < 0 ? NO_PORT : Texts.number(authority, colon + 1);

            String normalPath = isOpaque ? path : Paths.normalPath(path);
            normalWhole = normalPath.equals(path) ? text
                    : Texts.replaced(text, pathAt, pathAt + path.length(), normalPath);
        }

        private boolean isInNormalForm() {
            return normalWhole.equals(whole);
        }

        private Address normalForm() {
            return isInNormalForm() ? this : new Address(normalWhole);
        }

        /** The text from an index of the path on: the rest of the path, the query and the fragment. */
        private String wholeFrom(int pathIndex) {
            return whole.substring(pathAt + pathIndex);
        }
    }

    /** The normal form of paths. */
    private static final class Paths {
        private static String normalPath(String path) {
            StringBuilder left = new StringBuilder();
            int start = Texts.beginsWith(path, '/') ? 1 : 0;
            if (start == 1) {
                left.append('/');
            }
            // Pieces ".." that are left stand ahead of all others that are: it is enough to count these.
            int names = 0;
            boolean lastWent = false;
            int from = start;
            while (from < path.length()) {
                int to = Texts.endOfPiece(path, from);
                boolean isUp = isDots(path, from, to, 2);
                boolean cuts = isUp && names > 0;
                lastWent = cuts || isDots(path, from, to, 1);
                if (cuts) {
                    cutLast(left);
                    names--;
                } else if (!lastWent) {
                    Texts.addPart(left, path, from, to);
                    left.append('/');
                    names += isUp ? 0 : 1;
                }
                from = to + 1;
            }
            boolean isEnded = lastWent || Texts.endsWith(path, '/');
            if (left.length() > start && !isEnded) {
                left.setLength(left.length() - 1);
            }
            String normal = left.toString();
            // A colon in the first piece would be read as the end of a scheme.
            return Texts.colonAhead(normal, 0) < 0 ? normal : Texts.replaced(normal, 0, 0, "./");
        }

        private static boolean isDots(String path, int from, int to, int many) {
            boolean areDots = to - from == many;
            for (int i = from; i < to && areDots; i++) {
                areDots = path.charAt(i) == '.';
            }
            return areDots;
        }

        /** Takes off the last piece and the "/" behind it. */
        private static void cutLast(StringBuilder left) {
            int end = left.length() - 1;
            while (end > 0 && left.charAt(end - 1) != '/') {
                end--;
            }
            left.setLength(Math.max(0, end));
        }
    }

    /** What one address is as it lies behind another one. */
    private static final class Relatives {
        /** GIVEN_ONE, LEFT_OPEN, or the index in the given one's path at which what lies behind begins. */
        private static int behind(Address base, Address given) {
            if (base.isOpaque || given.isOpaque || !Texts.areSame(base.scheme, given.scheme, BROADLY)) {
                return GIVEN_ONE;
            }
            if (!base.scheme.equals(given.scheme)) {
                return LEFT_OPEN;
            }
            if (!base.authority.equals(given.authority)) {
                return Texts.areSame(base.authority, given.authority, BROADLY) ? LEFT_OPEN : GIVEN_ONE;
            }
            if (!base.isInNormalForm() || !given.isInNormalForm()) {
                return LEFT_OPEN;
            }
            return behindPath(base.path, given.path);
        }

        private static int behindPath(String base, String given) {
            if (base.equals(given)) {
                return given.length();
            }
            if (!Texts.endsWith(base, '/')) {
                return LEFT_OPEN;
            }
            if (!Texts.beginsWith(given, base, PLAINLY)) {
                return GIVEN_ONE;
            }
            boolean isOpen = !Texts.beginsWith(given, base, EXACTLY)
                    || Texts.colonAhead(given, base.length()) >= 0;
            return isOpen ? LEFT_OPEN : base.length();
        }

        private static String told(Address base, Address given) {
            int behind = behind(base, given);
            if (behind == LEFT_OPEN) {
                return NONE;
            }
            return behind == GIVEN_ONE ? given.whole : given.wholeFrom(behind);
        }
    }

    /** Two addresses held against each other. */
    private static final class Holding {
        private static boolean areAlike(Address one, Address other) {
            if (one.isOpaque != other.isOpaque || !Texts.areSame(one.scheme, other.scheme, BROADLY)
                    || !Texts.areSame(one.fragment, other.fragment, PLAINLY)) {
                return false;
            }
            if (one.isOpaque) {
                return Texts.areSame(one.rest, other.rest, PLAINLY);
            }
            boolean isServer = Texts.isThere(one.host);
            if (isServer != Texts.isThere(other.host) || one.port != other.port
                    || !Texts.areSame(one.path, other.path, PLAINLY)
                    || !Texts.areSame(one.query, other.query, PLAINLY)) {
                return false;
            }
            if (!isServer) {
                return Texts.areSame(one.authority, other.authority, PLAINLY);
            }
            return Texts.areSame(one.user, other.user, PLAINLY) && Texts.areSame(one.host, other.host, BROADLY);
        }

        /** -1 if the first one stands ahead, 1 if the other one does, 0 if they are at the same place. */
        private static int place(Address one, Address other) {
            int place = Texts.place(one.scheme, other.scheme, BROADLY);
            if (place == 0 && one.isOpaque != other.isOpaque) {
                place = one.isOpaque ? 1 : -1;
            }
            if (place == 0 && one.isOpaque) {
                place = Texts.place(one.rest, other.rest, PLAINLY);
            } else if (place == 0) {
                place = placeOfAuthority(one, other);
                place = place != 0 ? place : Texts.place(one.path, other.path, PLAINLY);
                place = place != 0 ? place : Texts.place(one.query, other.query, PLAINLY);
            }
            return place != 0 ? place : Texts.place(one.fragment, other.fragment, PLAINLY);
        }

        private static int placeOfAuthority(Address one, Address other) {
            if (!Texts.isThere(one.host) || !Texts.isThere(other.host)) {
                return Texts.place(one.authority, other.authority, PLAINLY);
            }
            int place = Texts.place(one.user, other.user, PLAINLY);
            if (place == 0) {
                place = Texts.place(one.host, other.host, BROADLY);
            }
            return place != 0 ? place : Integer.compare(one.port, other.port);
        }

        /** Looks at just what areAlike() looks at, in the same way, so that equal ones have the same. */
        private static int hash(Address one) {
            int hash = Texts.hash(one.isOpaque ? 1 : 0, one.scheme, BROADLY);
            hash = Texts.hash(hash, one.fragment, PLAINLY);
            if (one.isOpaque) {
                return Texts.hash(hash, one.rest, PLAINLY);
            }
            hash = Texts.hash(hash, one.path, PLAINLY);
            hash = Texts.hash(hash, one.query, PLAINLY);
            if (!Texts.isThere(one.host)) {
                return Texts.hash(hash, one.authority, PLAINLY);
            }
            hash = Texts.hash(hash, one.user, PLAINLY);
            hash = Texts.hash(hash, one.host, BROADLY);
            return hash * 31 + one.port;
        }
    }

    /** Texts and their signs. */
    private static final class Texts {
        private static boolean isThere(String part) {
            return !part.equals(NONE);
        }

        private static void joinWhole(StringBuilder out, String scheme, String rest, String fragment) {
            if (isThere(scheme)) {
                out.append(scheme);
                out.append(':');
            }
            out.append(rest);
            if (isThere(fragment)) {
                out.append('#');
                out.append(fragment);
            }
        }

        private static void joinRest(StringBuilder out, String authority, String path, String query) {
            if (isThere(authority)) {
                out.append("//");
                out.append(authority);
            }
            out.append(path);
            if (isThere(query)) {
                out.append('?');
                out.append(query);
            }
        }

        private static boolean isJoined(StringBuilder joined, String text) {
            boolean isSo = joined.length() == text.length();
            for (int i = 0; i < text.length() && isSo; i++) {
                isSo = joined.charAt(i) == text.charAt(i);
            }
            return isSo;
        }

        /** The text with another one in the place of its signs from one index to another one. */
        private static String replaced(String text, int from, int to, String by) {
            StringBuilder out = new StringBuilder();
            addPart(out, text, 0, from);
            out.append(by);
            addPart(out, text, to, text.length());
            return out.toString();
        }

        /** Sign by sign, since a substring would take room of its own. */
        private static void addPart(StringBuilder out, String text, int from, int to) {
            for (int i = Math.max(0, from); i < to && i < text.length(); i++) {
                out.append(text.charAt(i));
            }
        }

        private static boolean beginsWith(String text, char sign) {
            return !text.isEmpty() && text.charAt(0) == sign;
        }

        private static boolean beginsWith(String text, String head, int how) {
            boolean isSo = head.length() <= text.length();
            for (int i = 0; i < head.length() && isSo; i++) {
                isSo = sign(text, i, how) == sign(head, i, how);
            }
            return isSo;
        }

        private static boolean endsWith(String text, char sign) {
            return !text.isEmpty() && text.charAt(text.length() - 1) == sign;
        }

        /** The index of the next "/", or the text's length. */
        private static int endOfPiece(String text, int from) {
            int end = Math.max(0, from);
            while (end < text.length() && text.charAt(end) != '/') {
                end++;
            }
            return end;
        }

        /** The index of a ":" ahead of the next "/", "?" and "#"; -1 without. */
        private static int colonAhead(String text, int from) {
            for (int i = Math.max(0, from); i < text.length(); i++) {
                char sign = text.charAt(i);
                if (sign == ':') {
                    return i;
                }
                if (sign == '/' || sign == '?' || sign == '#') {
                    return -1;
                }
            }
            return -1;
        }

        /** Where the authority ends that a rest begins with; 0 without. */
        private static int endOfAuthority(String rest, int pathEnd) {
            if (!beginsWith(rest, "//", EXACTLY)) {
                return 0;
            }
            return Math.min(endOfPiece(rest, 2), pathEnd);
        }

        private static int number(String text, int from) {
            int number = 0;
            for (int i = Math.max(0, from); i < text.length(); i++) {
                number = number * 10 + (text.charAt(i) - '0');
            }
            return number;
        }

        private static boolean areSame(String one, String other, int how) {
            return one.length() == other.length() && beginsWith(one, other, how);
        }

        private static int place(String one, String other, int how) {
            if (isThere(one) != isThere(other)) {
                return isThere(one) ? 1 : -1;
            }
            int shorter = Math.min(one.length(), other.length());
            for (int i = 0; i < shorter; i++) {
                int place = Integer.compare(sign(one, i, how), sign(other, i, how));
                if (place != 0) {
                    return place;
                }
            }
            return Integer.compare(one.length(), other.length());
        }

        /** Begins with the length, so that the signs of one part are none of the next one. */
        private static int hash(int before, String text, int how) {
            int hash = before * 31 + text.length();
            for (int i = 0; i < text.length(); i++) {
                hash = hash * 31 + sign(text, i, how);
            }
            return hash;
        }

        /** The sign at an index, by small letters where these are the same as great ones. */
        private static char sign(String text, int i, int how) {
            char sign = text.charAt(i);
            if (how == EXACTLY || sign < 'A' || sign > 'Z') {
                return sign;
            }
            boolean isBehindPercent = i >= 1 && text.charAt(i - 1) == '%' || i >= 2 && text.charAt(i - 2) == '%';
            return how == BROADLY || isBehindPercent ? (char) (sign - 'A' + 'a') : sign;
        }
    }
}
