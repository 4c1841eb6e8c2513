import java.math.BigInteger;
import java.util.Arrays;

/**
 * The boundary cases of promises 44 to 48, and the 512 calls that an object is promised for: a function for each
 * sentence that names some.
 */
final class WholeEdgesTest {
    /** A sum that never wraps around; its low 64 bits are what is due. */
    private static final class Sum {
        private BigInteger d = BigInteger.valueOf(7677);

        private void add(long value) {
            d = d.multiply(BigInteger.valueOf(31)).add(BigInteger.valueOf(value));
        }

        private void add(String text) {
            add(text.length());
            for (int i = 0; i < text.length(); i++) {
                add(text.charAt(i));
            }
        }
    }

    public static void main(String[] args) {
        zerosAtFirst();
        houseNumbers();
        actsOnDraft();
        actsOnCells();
        actsThatLeaveAll();
        refusedAndThrownAreNone();
        refusalsOfEachCall();
        noRefusals();
        faultyWeaves();
        faultyWithout();
        knocksWithThis();
        soundAlways();
        checksumOfNewOne();
        checksumOfSix();
        checksumWraps();
        checksumChangesNothing();
        checksumOfEachValue();
        calls512();
        twoObjects();
        Check.end("WholeEdgesTest");
    }

    private static void house(String call, Addressloom x, int... want) {
        int[] got = new int[5];
        for (int what = 0; what <= 4; what++) {
            got[what] = x.house(what);
        }
        Check.due("house(0 to 4) behind " + call, Arrays.toString(got), Arrays.toString(want));
    }

    private static void zerosAtFirst() {
        Check.sentence("promise 44: of a new one");
        house("nothing", new Addressloom(), 0, 0, 0, 0, 0);
    }

    private static void houseNumbers() {
        Check.sentence("promise 44: if what is not 0 to 4");
        for (int beyond : new int[] {-1, 5, 6, Integer.MIN_VALUE, Integer.MAX_VALUE}) {
            Telling.throwsAndStays("house(" + beyond + ")", Check.ARGUMENT, CellNumbersTest::six,
                    x -> x.house(beyond));
        }
        int[] want = {52, 7, 0, 0, 0};
        for (int what = 0; what <= 4; what++) {
            int asked = what;
            Telling.answersAndStays("house(" + what + ")", want[what], CellNumbersTest::six, x -> x.house(asked));
        }
    }

    /** One call on the six cells, and what it adds to house(0 to 4). */
    private static void adds(String call, Telling.Act act, int... added) {
        Addressloom x = CellNumbersTest.six();
        act.on(x);
        house(call, x, 52 + added[0], 7 + added[1], added[2], added[3], added[4]);
    }

    private static void actsOnDraft() {
        Check.sentence("promise 44: 0 how many acts were done on the DRAFT (scheme() to wipe())");
        adds("scheme(1)", x -> x.scheme(1), 1, 0, 0, 0, 0);
        adds("authority(1)", x -> x.authority(1), 1, 0, 0, 0, 0);
        adds("rooted(true)", x -> x.rooted(true), 1, 0, 0, 0, 0);
        adds("piece(1)", x -> x.piece(1), 1, 0, 0, 0, 0);
        adds("unpiece(1)", x -> x.unpiece(1), 1, 0, 0, 0, 0);
        adds("ended(true)", x -> x.ended(true), 1, 0, 0, 0, 0);
        adds("query(1)", x -> x.query(1), 1, 0, 0, 0, 0);
        adds("fragment(1)", x -> x.fragment(1), 1, 0, 0, 0, 0);
        adds("wipe()", x -> x.wipe(), 1, 0, 0, 0, 0);
        adds("draft()", x -> x.draft(), 0, 0, 0, 0, 0);
        adds("isLet()", x -> x.isLet(), 0, 0, 0, 0, 0);
        adds("ofDraft(0)", x -> x.ofDraft(0), 0, 0, 0, 0, 0);
    }

    private static void actsOnCells() {
        Check.sentence("promise 44: 1 how many on cells (weave() to best())");
        adds("weave(0)", x -> x.weave(0), 0, 1, 0, 0, 0);
        adds("again(0, 1)", x -> x.again(0, 1), 0, 1, 0, 0, 0);
        adds("copy(0, 1)", x -> x.copy(0, 1), 0, 1, 0, 0, 0);
        adds("swap(0, 1)", x -> x.swap(0, 1), 0, 1, 0, 0, 0);
        adds("normalize(0, 1)", x -> x.normalize(0, 1), 0, 1, 0, 0, 0);
        adds("relativize(1, 0, 2)", x -> x.relativize(1, 0, 2), 0, 1, 0, 0, 0);
        adds("sort(false)", x -> x.sort(false), 0, 1, 0, 0, 0);
        adds("sort(true)", x -> x.sort(true), 0, 1, 0, 0, 0);
        adds("best(false, 0)", x -> x.best(false, 0), 0, 1, 0, 0, 0);
        adds("best(true, 0)", x -> x.best(true, 0), 0, 1, 0, 0, 0);
        adds("text(0)", x -> x.text(0), 0, 0, 0, 0, 0);
        adds("normalText(0)", x -> x.normalText(0), 0, 0, 0, 0, 0);
        adds("find(0, false)", x -> x.find(0, false), 0, 0, 0, 0, 0);
        adds("oneHash(0, 0)", x -> x.oneHash(0, 0), 0, 0, 0, 0, 0);
        adds("faulty()", x -> x.faulty(), 0, 0, 0, 0, 0);
        adds("isSound()", x -> x.isSound(), 0, 0, 0, 0, 0);
        adds("digest()", x -> x.digest(), 0, 0, 0, 0, 0);
    }

    private static void actsThatLeaveAll() {
        Check.sentence("promise 44: both also if all stays as it was");
        adds("scheme(0) of 0", x -> x.scheme(0), 1, 0, 0, 0, 0);
        adds("authority(0) of 0", x -> x.authority(0), 1, 0, 0, 0, 0);
        adds("rooted(false) of what is not", x -> x.rooted(false), 1, 0, 0, 0, 0);
        adds("unpiece(0)", x -> x.unpiece(0), 1, 0, 0, 0, 0);
        adds("unpiece(8) twice", x -> x.unpiece(8) + x.unpiece(8), 2, 0, 0, 0, 0);
        adds("ended(false) of what is not", x -> x.ended(false), 1, 0, 0, 0, 0);
        adds("query(0) of 0", x -> x.query(0), 1, 0, 0, 0, 0);
        adds("fragment(5) of 5", x -> x.fragment(5), 1, 0, 0, 0, 0);
        adds("wipe() twice", x -> x.wipe() + x.wipe(), 2, 0, 0, 0, 0);
        adds("weave(5) of what is there", x -> x.weave(5), 0, 1, 0, 0, 0);
        adds("again(0, 0)", x -> x.again(0, 0), 0, 1, 0, 0, 0);
        adds("copy(0, 0)", x -> x.copy(0, 0), 0, 1, 0, 0, 0);
        adds("swap(0, 0)", x -> x.swap(0, 0), 0, 1, 0, 0, 0);
        adds("normalize(1, 1)", x -> x.normalize(1, 1), 0, 1, 0, 0, 0);
        adds("relativize(1, 0, 0)", x -> x.relativize(1, 0, 0), 0, 1, 0, 0, 0);
        adds("sort(false) twice", x -> x.sort(false) + x.sort(false), 0, 2, 0, 0, 0);
        adds("best(false, 2)", x -> x.best(false, 2), 0, 1, 0, 0, 0);
        adds("best(true, 1)", x -> x.best(true, 1), 0, 1, 0, 0, 0);
    }

    private static Object thrown(Telling.Act act, Addressloom x) {
        try {
            return act.on(x);
        } catch (IllegalArgumentException | IndexOutOfBoundsException | IllegalStateException e) {
            return e;
        }
    }

    private static void refusedAndThrownAreNone() {
        Check.sentence("promise 44: one that told -9, or threw, is none");
        Telling.Act[] thrown = {x -> x.scheme(6), x -> x.authority(13), x -> x.piece(13), x -> x.unpiece(9),
            x -> x.query(7), x -> x.fragment(6), x -> x.weave(6), x -> x.again(6, 0), x -> x.again(2, 6),
            x -> x.copy(0, 6), x -> x.swap(6, 0), x -> x.normalize(0, 6), x -> x.relativize(0, 0, 6),
            x -> x.best(true, 6), x -> x.oneHash(0, 6), x -> x.house(5), x -> x.wipe() + x.weave(0)};
        for (int i = 0; i < thrown.length; i++) {
            Telling.Act act = thrown[i];
            adds("call " + i + " that threw", x -> thrown(act, x), i == thrown.length - 1 ? 1 : 0, 0, 0, 0, 0);
        }
        adds("again(2, 0)", x -> x.again(2, 0), 0, 0, 1, 0, 0);
        adds("relativize(0, 0, 1)", x -> x.relativize(0, 0, 1), 0, 0, 1, 0, 0);
        adds("oneHash(0, 1)", x -> x.oneHash(0, 1), 0, 0, 1, 0, 0);
        adds("weave(0) of a faulty one", x -> x.piece(11) + x.weave(0), 1, 0, 1, 1, 0);
        adds("nine pieces on two", WholeEdgesTest::ninePieces, 6, 0, 3, 0, 0);
    }

    private static Object ninePieces(Addressloom x) {
        for (int i = 0; i < 9; i++) {
            x.piece(i);
        }
        return x;
    }

    private static void refusalsOfEachCall() {
        Check.sentence("promise 44: 2 how often -9 was told, by piece(), weave(), again(), relativize() and oneHash()");
        Addressloom x = CellNumbersTest.six();
        for (int i = 0; i < 6; i++) {
            x.piece(12);
        }
        house("six pieces", x, 58, 7, 0, 0, 0);
        Check.due("piece(0)", x.piece(0), -9);
        house("piece()", x, 58, 7, 1, 0, 0);
        Check.due("weave(0)", x.weave(0), -9);
        house("weave()", x, 58, 7, 2, 1, 0);
        Check.due("again(2, 0)", x.again(2, 0), -9);
        house("again()", x, 58, 7, 3, 1, 0);
        Check.due("relativize(0, 0, 0)", x.relativize(0, 0, 0), -9);
        house("relativize()", x, 58, 7, 4, 1, 0);
        Check.due("oneHash(0, 1)", x.oneHash(0, 1), -9);
        house("oneHash()", x, 58, 7, 5, 1, 0);
        Check.due("oneHash(0, 0)", x.oneHash(0, 0), 1);
        house("oneHash() of one", x, 58, 7, 5, 1, 0);
    }

    private static void noRefusals() {
        Check.sentence("promise 44: a PORT is never -9; the \"-\" of relativeText() does not count");
        adds("portOf(0), without", x -> x.portOf(0), 0, 0, 0, 0, 0);
        adds("portOf(4), of 80", x -> x.portOf(4), 0, 0, 0, 0, 0);
        adds("relativeText(0, 0), left open", x -> x.relativeText(0, 0), 0, 0, 0, 0, 0);
        adds("authorityOf(1), told as \"-\"", x -> x.authorityOf(1), 0, 0, 0, 0, 0);
        adds("digest() with what is left open", x -> x.digest(), 0, 0, 0, 0, 0);
    }

    private static void faultyWeaves() {
        Check.sentence("promise 44: 3 how often a DRAFT was FAULTY as weave() was called");
        Addressloom x = new Addressloom();
        x.scheme(5);
        house("a faulty DRAFT", x, 1, 0, 0, 0, 0);
        x.weave(0);
        house("weave(0)", x, 1, 0, 1, 1, 0);
        x.weave(0);
        house("weave(0) again", x, 1, 0, 2, 2, 0);
        Check.dueThrow("weave(6)", Check.INDEX, () -> x.weave(6));
        house("weave(6)", x, 1, 0, 2, 2, 0);
        x.authority(1);
        x.piece(11);
        Check.dueThrow("weave(0) of one not let", Check.STATE, () -> x.weave(0));
        house("one not let", x, 3, 0, 2, 2, 0);
        x.scheme(0);
        x.wipe();
        x.rooted(true);
        x.weave(0);
        house("a sound one", x, 6, 1, 2, 2, 0);
    }

    private static void faultyWithout() {
        Check.sentence("promise 45: \"\" without");
        Addressloom x = new Addressloom();
        Check.due("faulty() of a new one", x.faulty(), "");
        x.piece(11);
        Check.due("faulty() of a faulty DRAFT that was not woven", x.faulty(), "");
        x.authority(12);
        Check.dueThrow("weave(0)", Check.STATE, () -> x.weave(0));
        Check.due("faulty() behind one that was not let", x.faulty(), "");
        x.rooted(true);
        Check.dueThrow("weave(-1)", Check.INDEX, () -> x.weave(-1));
        Check.due("faulty() behind a wrong cell", x.faulty(), "");
        x.weave(5);
        Check.due("faulty()", x.faulty(), "//a^b/^");
        x.wipe();
        x.rooted(true);
        x.weave(0);
        Check.due("faulty() behind a sound one", x.faulty(), "//a^b/^");
    }

    private static void knocksWithThis() {
        Check.sentence("promise 46: how often one knocked, with this");
        Addressloom x = CellNumbersTest.six();
        Check.due("knock()", x.knock(), 1);
        house("knock()", x, 52, 7, 0, 0, 1);
        Check.due("knock() again", x.knock(), 2);
        x.wipe();
        x.sort(true);
        Check.due("knock() behind others", x.knock(), 3);
        house("three", x, 53, 8, 0, 0, 3);
    }

    private static void soundAlways() {
        Check.sentence("promise 47: all of this is so");
        Check.due("isSound() of a new one", new Addressloom().isSound(), true);
        Telling.answersAndStays("isSound()", true, CellNumbersTest::six, x -> x.isSound());
        Addressloom x = CellNumbersTest.six();
        for (int cell = 0; cell < 6; cell++) {
            x.copy(2, cell);
            Check.due("isSound() with empty texts up to " + cell, x.isSound(), true);
        }
        Addressloom y = CellNumbersTest.six();
        for (int cell = 0; cell < 6; cell++) {
            y.normalize(cell, cell);
            Check.due("isSound() with NORMAL ones", y.isSound(), true);
        }
        y.sort(true);
        Check.due("isSound() of sorted ones", y.isSound(), true);
        String[] told = {"HTTP A.b /%4a/../%4A %4a %4A", "http a.b /%4A/../%4a %4A %4a", "http ~%4a /./ - -",
            "HTTP ~%4A /. - -", "- - a/../d:e - -", "- - ./d:e - -"};
        Addressloom z = new Addressloom();
        for (int cell = 0; cell < 6; cell++) {
            Check.weave(z, cell, told[cell]);
        }
        Check.due("isSound() of EQUAL ones", z.isSound(), true);
    }

    private static void checksumOfNewOne() {
        Check.sentence("promise 48: the checksum of a new one");
        Sum sum = new Sum();
        for (int what = 0; what <= 6; what++) {
            sum.add(0);
        }
        sum.add("");
        for (int cell = 0; cell < 6; cell++) {
            sum.add("/");
            sum.add("/");
            sum.add("/");
            sum.add("-");
            sum.add(-1);
            sum.add("/");
            sum.add(0);
            sum.add(0);
            sum.add(6);
            sum.add(0);
        }
        for (int pair = 0; pair < 30; pair++) {
            sum.add(0);
            sum.add("");
        }
        for (int what = 0; what <= 4; what++) {
            sum.add(0);
        }
        sum.add(1);
        Check.due("digest()", new Addressloom().digest(), sum.d.longValue());
    }

    private static Sum sumOfSix(long knocks) {
        Sum sum = new Sum();
        for (int told : new int[] {0, 0, 0, 2, 0, 0, 5}) {
            sum.add(told);
        }
        sum.add("%4a/d:e#%4A");
        for (int cell = 0; cell < 6; cell++) {
            sum.add(CellNumbersTest.TEXTS[cell]);
            sum.add(CellNumbersTest.RESTS[cell]);
            sum.add(CellNumbersTest.PATHS[cell]);
            sum.add(CellNumbersTest.HOSTS[cell]);
            sum.add(CellNumbersTest.PORTS[cell]);
            sum.add(CellNumbersTest.NORMALS[cell]);
            sum.add(cell == 1 ? 1 : 0);
            sum.add(cell);
            sum.add(1);
            sum.add(CellNumbersTest.AHEAD[cell]);
        }
        for (int one = 0; one < 6; one++) {
            for (int other = 0; other < 6; other++) {
                if (one != other) {
                    sum.add(CellNumbersTest.AHEAD[one] < CellNumbersTest.AHEAD[other] ? -1 : 1);
                    sum.add(CellNumbersTest.relative(one, other));
                }
            }
        }
        for (long told : new long[] {52, 7, 0, 0, knocks}) {
            sum.add(told);
        }
        sum.add(1);
        return sum;
    }

    private static void checksumOfSix() {
        Check.sentence("promise 48: the values in their order, the numbers -1 too");
        Check.due("digest()", CellNumbersTest.six().digest(), sumOfSix(0).d.longValue());
    }

    private static void checksumWraps() {
        Check.sentence("promise 48: which wraps around as a 64-bit integer");
        boolean isNegative = false;
        boolean isPositive = false;
        Addressloom x = CellNumbersTest.six();
        for (int knocks = 0; knocks < 64; knocks++) {
            Sum sum = sumOfSix(knocks);
            Check.due("the sum has more than 64 bits", sum.d.bitLength() > 64, true);
            Check.due("digest() behind " + knocks, x.digest(), sum.d.longValue());
            x.knock();
        }
        for (int scheme = 0; scheme <= 5; scheme++) {
            x.scheme(scheme);
            isNegative |= x.digest() < 0;
            isPositive |= x.digest() > 0;
            Check.due("digest()", x.digest(), WholeTest.summed(x));
            x = CellNumbersTest.six();
        }
        Check.due("a checksum below 0 was there", isNegative, true);
        Check.due("a checksum above 0 was there", isPositive, true);
    }

    private static void checksumChangesNothing() {
        Check.sentence("promise 48: digest() is no act");
        Telling.answersAndStays("digest()", CellNumbersTest.six().digest(), CellNumbersTest::six, x -> x.digest());
        Addressloom x = CellNumbersTest.six();
        long first = x.digest();
        for (int i = 0; i < 100; i++) {
            Check.due("digest() again", x.digest(), first);
        }
    }

    private static void checksumOfEachValue() {
        Check.sentence("promise 48: each value that it is made of");
        Telling.Act[] changes = {x -> x.scheme(1), x -> x.authority(12), x -> x.rooted(true), x -> x.piece(0),
            x -> x.ended(true), x -> x.query(1), x -> x.fragment(0), x -> x.wipe(), x -> x.weave(0),
            x -> x.swap(0, 5), x -> x.swap(1, 2), x -> x.normalize(0, 0), x -> x.sort(false), x -> x.sort(true),
            x -> x.oneHash(0, 1), x -> x.knock(), x -> x.again(2, 2), x -> x.relativize(4, 4, 4),
            x -> x.copy(0, 1), x -> x.best(true, 3)};
        for (int i = 0; i < changes.length; i++) {
            Addressloom x = CellNumbersTest.six();
            long before = x.digest();
            changes[i].on(x);
            Check.due("digest() behind change " + i + " is another one", x.digest() != before, true);
            Check.due("digest() behind change " + i, x.digest(), WholeTest.summed(x));
        }
    }

    private static void calls512() {
        Check.sentence("an object is used for at most 512 calls after it has been made");
        Addressloom knocked = new Addressloom();
        for (int call = 1; call <= 512; call++) {
            Check.due("knock(), call " + call, knocked.knock(), call);
        }
        Addressloom summed = new Addressloom();
        long digest = summed.digest();
        for (int call = 2; call <= 512; call++) {
            Check.due("digest(), call " + call, summed.digest(), digest);
        }
        Addressloom full = new Addressloom();
        for (int call = 1; call <= 511; call++) {
            Check.due("piece(2), call " + call, full.piece(2), call <= 8 ? call : -9);
        }
        Check.due("house(2), call 512", full.house(2), 503);
        Addressloom changed = CellNumbersTest.six();
        for (int call = 0; call < 440; call++) {
            Check.due("sort", changed.sort(call % 2 == 0), call == 0 ? 5 : 6);
        }
        Check.due("house(1)", changed.house(1), 447);
    }

    private static void twoObjects() {
        Check.sentence("promise 1: each object has a DRAFT and cells of its own");
        Addressloom before = new Addressloom();
        Addressloom x = CellNumbersTest.six();
        x.piece(11);
        x.weave(0);
        x.knock();
        Telling.same("the calls of another object", Telling.of(before), Telling.of(new Addressloom()));
        Check.due("digest() of one made ahead", before.digest(), new Addressloom().digest());
        before.knock();
        Check.due("knock() of the other one", x.knock(), 2);
    }
}
