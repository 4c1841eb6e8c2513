import java.util.LinkedHashMap;
import java.util.Map;

/**
 * All that an object tells of itself, and calls that have to leave it as it is. Each is held on two objects made
 * alike, one with the call and one without, so that none comes near the 512 calls that are promised.
 */
final class Telling {
    interface Maker {
        Addressloom make();
    }

    interface Act {
        Object on(Addressloom x);
    }

    private Telling() {
    }

    static Map<String, Object> of(Addressloom x) {
        Map<String, Object> told = new LinkedHashMap<>();
        for (int what = 0; what <= 6; what++) {
            told.put("ofDraft(" + what + ")", x.ofDraft(what));
        }
        told.put("draft()", x.draft());
        told.put("isLet()", x.isLet());
        told.put("faulty()", x.faulty());
        told.put("isSound()", x.isSound());
        for (int what = 0; what <= 4; what++) {
            told.put("house(" + what + ")", x.house(what));
        }
        for (int cell = 0; cell < 6; cell++) {
            told.putAll(ofCell(x, cell));
            for (int other = 0; other < 6; other++) {
                String both = "(" + cell + ", " + other + ")";
                told.put("order" + both, x.order(cell, other, 0));
                told.put("areEqual" + both, x.areEqual(cell, other, 0));
                told.put("relativeText" + both, x.relativeText(cell, other));
            }
        }
        return told;
    }

    private static Map<String, Object> ofCell(Addressloom x, int cell) {
        Map<String, Object> told = new LinkedHashMap<>();
        String at = "(" + cell + ")";
        told.put("text" + at, x.text(cell));
        told.put("schemeOf" + at, x.schemeOf(cell));
        told.put("restOf" + at, x.restOf(cell));
        told.put("authorityOf" + at, x.authorityOf(cell));
        told.put("userOf" + at, x.userOf(cell));
        told.put("hostOf" + at, x.hostOf(cell));
        told.put("portOf" + at, x.portOf(cell));
        told.put("pathOf" + at, x.pathOf(cell));
        told.put("queryOf" + at, x.queryOf(cell));
        told.put("fragmentOf" + at, x.fragmentOf(cell));
        told.put("isAbsolute" + at, x.isAbsolute(cell));
        told.put("isOpaque" + at, x.isOpaque(cell));
        told.put("isNormal" + at, x.isNormal(cell));
        told.put("normalText" + at, x.normalText(cell));
        told.put("find" + at, x.find(cell, false));
        told.put("find, from the end" + at, x.find(cell, true));
        told.put("like" + at, x.like(cell));
        told.put("ahead" + at, x.ahead(cell));
        return told;
    }

    static void same(String call, Map<String, Object> got, Map<String, Object> want) {
        for (Map.Entry<String, Object> due : want.entrySet()) {
            Check.due("behind " + call + " " + due.getKey(), got.get(due.getKey()), due.getValue());
        }
    }

    /** The call throws that, and changes nothing. */
    static void throwsAndStays(String call, Class<? extends RuntimeException> want, Maker maker, Act act) {
        Addressloom x = maker.make();
        Addressloom without = maker.make();
        Check.dueThrow(call, want, () -> act.on(x));
        same(call, of(x), of(without));
        Check.due("behind " + call + " digest()", x.digest(), without.digest());
    }

    /** The call tells -9, and changes nothing but that it is counted. */
    static void refuses(String call, Maker maker, Act act) {
        Addressloom x = maker.make();
        Map<String, Object> want = of(maker.make());
        want.put("house(2)", (Integer) want.get("house(2)") + 1);
        Check.due(call, act.on(x), -9);
        same(call, of(x), want);
    }

    /** weave() tells -9, and changes nothing but that it is counted, and what is told of faulty drafts. */
    static void refusesFaulty(String call, Maker maker, int cell) {
        Addressloom x = maker.make();
        Map<String, Object> want = of(maker.make());
        want.put("house(2)", (Integer) want.get("house(2)") + 1);
        want.put("house(3)", (Integer) want.get("house(3)") + 1);
        want.put("faulty()", want.get("draft()"));
        Check.due(call, x.weave(cell), -9);
        same(call, of(x), want);
    }

    /** The call answers that, and nothing is told otherwise behind it. */
    static void answersAndStays(String call, Object want, Maker maker, Act act) {
        Addressloom x = maker.make();
        Addressloom without = maker.make();
        Check.due(call, act.on(x), want);
        same(call, of(x), of(without));
        Check.due("behind " + call + " digest()", x.digest(), without.digest());
    }
}
