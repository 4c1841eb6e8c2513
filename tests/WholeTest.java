/** Promises 44 to 48: what the whole object tells. */
final class WholeTest {
    public static void main(String[] args) {
        houses();
        wrongHouses();
        faultyOnes();
        knocks();
        sounds();
        digests();
        Check.end("WholeTest");
    }

    private static void house(String call, Addressloom x, int... want) {
        for (int what = 0; what < want.length; what++) {
            Check.due("house(" + what + ") behind " + call, x.house(what), want[what]);
        }
    }

    private static void houses() {
        Addressloom x = new Addressloom();
        house("nothing", x, 0, 0, 0, 0, 0);
        x.scheme(0);
        x.authority(0);
        x.rooted(false);
        x.ended(false);
        x.query(0);
        x.fragment(0);
        x.unpiece(0);
        x.wipe();
        house("acts that leave all as it was", x, 8, 0, 0, 0, 0);
        x.piece(11);
        x.weave(0);
        house("a faulty one", x, 9, 0, 1, 1, 0);
        x.weave(0);
        house("a faulty one again", x, 9, 0, 2, 2, 0);
        x.unpiece(1);
        x.rooted(true);
        x.weave(0);
        house("weave()", x, 11, 1, 2, 2, 0);
        x.again(0, 0);
        x.copy(0, 0);
        x.swap(0, 0);
        x.normalize(0, 0);
        x.sort(false);
        x.best(false, 0);
        house("acts on cells", x, 11, 7, 2, 2, 0);
        x.relativize(0, 0, 0);
        house("relativize()", x, 11, 8, 2, 2, 0);
        x.again(0, 1);
        house("again() of an empty text", x, 11, 8, 3, 2, 0);
        x.oneHash(0, 1);
        house("oneHash() of unlike ones", x, 11, 8, 4, 2, 0);
        x.relativize(0, 1, 2);
        house("relativize() that is left open", x, 11, 8, 5, 2, 0);
        x.relativeText(0, 1);
        x.portOf(0);
        x.isOther(0, 0);
        x.find(0, true);
        x.draft();
        x.isLet();
        x.ofDraft(0);
        x.digest();
        x.isSound();
        x.faulty();
        house("what is asked alone", x, 11, 8, 5, 2, 0);
        x.knock();
        house("knock()", x, 11, 8, 5, 2, 1);
        for (int many = 0; many < 9; many++) {
            x.piece(2);
        }
        house("nine pieces", x, 19, 8, 6, 2, 1);
    }

    private static void wrongHouses() {
        Addressloom x = new Addressloom();
        for (int what : new int[] {-1, 5, Integer.MIN_VALUE, Integer.MAX_VALUE}) {
            Check.dueThrowAndStay("house(" + what + ")", Check.ARGUMENT, x, () -> x.house(what));
        }
    }

    private static void faultyOnes() {
        Addressloom x = new Addressloom();
        Check.draft(x, 1, 0, "", 0, 2);
        Check.due("faulty()", x.faulty(), "");
        x.weave(0);
        Check.due("faulty()", x.faulty(), "http:#f");
        x.rooted(true);
        x.weave(0);
        Check.due("faulty() behind one that is none", x.faulty(), "http:#f");
        x.piece(12);
        Check.due("faulty() ahead of weave()", x.faulty(), "http:#f");
        x.weave(5);
        Check.due("faulty()", x.faulty(), "http:/%g1#f");
        x.wipe();
        Check.due("faulty() behind wipe()", x.faulty(), "http:/%g1#f");
    }

    private static void knocks() {
        Addressloom x = new Addressloom();
        for (int many = 1; many <= 5; many++) {
            Check.due("knock()", x.knock(), many);
            Check.due("house(4)", x.house(4), many);
        }
    }

    private static void sounds() {
        Addressloom x = new Addressloom();
        Check.due("isSound()", x.isSound(), true);
        Check.weavePath(x, 0, "a/..");
        Check.weavePath(x, 1, "./d:e/a/..");
        Check.weave(x, 2, 1, 0, "a", 0, 0);
        Check.weave(x, 3, 2, 0, "a", 0, 0);
        Check.weave(x, 4, 4, 5, "/%4a/", 1, 1);
        Check.due("isSound()", x.isSound(), true);
        x.normalize(0, 0);
        x.normalize(1, 1);
        x.relativize(4, 4, 5);
        Check.due("isSound() with an empty text", x.isSound(), true);
        Check.due("house(1)", x.house(1), 8);
    }

    private static long mix(long d, String text) {
        long all = d * 31 + text.length();
        for (char sign : text.toCharArray()) {
            all = all * 31 + sign;
        }
        return all;
    }

    /** The checksum made up anew of what the other calls answer. */
    static long summed(Addressloom x) {
        long d = 7677;
        for (int what = 0; what <= 6; what++) {
            d = d * 31 + x.ofDraft(what);
        }
        d = mix(d, x.draft());
        for (int cell = 0; cell < 6; cell++) {
            d = mix(d, x.text(cell));
            d = mix(d, x.restOf(cell));
            d = mix(d, x.pathOf(cell));
            d = mix(d, x.hostOf(cell));
            d = d * 31 + x.portOf(cell);
            d = mix(d, x.normalText(cell));
            d = d * 31 + (x.isOpaque(cell) ? 1 : 0);
            d = d * 31 + x.find(cell, false);
            d = d * 31 + x.like(cell);
            d = d * 31 + x.ahead(cell);
        }
        for (int one = 0; one < 6; one++) {
            for (int other = 0; other < 6; other++) {
                if (one != other) {
                    d = d * 31 + x.order(one, other, 0);
                    d = mix(d, x.relativeText(one, other));
                }
            }
        }
        for (int what = 0; what <= 4; what++) {
            d = d * 31 + x.house(what);
        }
        return d * 31 + (x.isSound() ? 1 : 0);
    }

    private static void digests() {
        Addressloom x = new Addressloom();
        Check.due("digest() of a new one", x.digest(), summed(x));
        Check.draft(x, 1, 6, "/a/../b/", 2, 3);
        Check.due("digest()", x.digest(), summed(x));
        x.weave(0);
        Check.weave(x, 1, 2, 4, "", 5, 0);
        Check.weave(x, 2, 3, 0, "d:e", 0, 0);
        Check.weave(x, 3, 0, 11, "/%4a/", 0, 0);
        Check.weave(x, 4, 0, 11, "/%4a/a", 4, 2);
        Check.weave(x, 5, 0, 10, "/%4A/a", 4, 2);
        x.piece(11);
        x.weave(0);
        x.knock();
        Check.due("digest()", x.digest(), summed(x));
        Check.due("digest() again", x.digest(), summed(x));
    }
}
