import java.lang.reflect.Constructor;
import java.lang.reflect.Field;

/**
 * Promise 47 where something is not so. No run of calls comes there, so that isSound() that always told true would
 * pass every other test: here the ADDRESSES in the cells are bent from outside, each so that it offends one clause
 * alone. It goes by the names of the class's private fields, and changes with them.
 */
final class SoundnessTest {
    private final Addressloom x = new Addressloom();

    public static void main(String[] args) throws ReflectiveOperationException {
        textOfParts();
        restOfParts();
        twiceNormal();
        readAgain();
        equalOrAhead();
        equalNormalForms();
        threes();
        Check.end("SoundnessTest");
    }

    private static Object made(String text) throws ReflectiveOperationException {
        Constructor<?> maker = Class.forName("Addressloom$Address").getDeclaredConstructor(String.class);
        maker.setAccessible(true);
        return maker.newInstance(text);
    }

    private static Object bent(String text, String field, Object to) throws ReflectiveOperationException {
        Object address = made(text);
        Field part = address.getClass().getDeclaredField(field);
        part.setAccessible(true);
        Check.due(field + " of " + text + " was another one", !to.equals(part.get(address)), true);
        part.set(address, to);
        return address;
    }

    private SoundnessTest with(int cell, Object address) throws ReflectiveOperationException {
        Field cells = Addressloom.class.getDeclaredField("cells");
        cells.setAccessible(true);
        ((Object[]) cells.get(x))[cell] = address;
        return this;
    }

    private void due(String what, boolean want) {
        Check.due("isSound() with " + what, x.isSound(), want);
        Check.due("digest() with " + what, x.digest(), WholeTest.summed(x));
    }

    /** In each cell alone, and as it stands where it is not bent. */
    private static void offends(String text, String field, Object to) throws ReflectiveOperationException {
        for (int cell = 0; cell < 6; cell++) {
            new SoundnessTest().with(cell, made(text)).due(text, true);
            new SoundnessTest().with(cell, bent(text, field, to)).due(text + ", its " + field + " " + to, false);
        }
    }

    private static void textOfParts() throws ReflectiveOperationException {
        Check.sentence("promise 47: SCHEME, REST and FRAGMENT make up its text");
        offends("http://c/a", "scheme", "HTTP");
        offends("/a#%4a", "fragment", "%4A");
        offends("s:%4a", "rest", "%4A");
    }

    private static void restOfParts() throws ReflectiveOperationException {
        Check.sentence("promise 47: of a ROOFED one AUTHORITY, PATH and QUERY its REST");
        offends("//~%4a/a", "authority", "~%4A");
        offends("/%4a", "path", "/%4A");
        offends("/a?%4a", "query", "%4A");
        new SoundnessTest().with(2, bent("s:a", "query", "x=1")).due("an OPAQUE one of which no QUERY is asked", true);
    }

    private static void twiceNormal() throws ReflectiveOperationException {
        Check.sentence("promise 47: its NORMAL FORM's NORMAL FORM has the text of its NORMAL FORM");
        offends("/b", "normalWhole", "/a/../b");
    }

    private static void readAgain() throws ReflectiveOperationException {
        Check.sentence("promise 47: its text, if it is not empty, read again, is EQUAL to it");
        offends("//u@a.b/", "user", "U");
        offends("//a.b/", "host", "c");
        offends("//a.b:8/", "port", 80);
        offends("//a.b", "host", "c");
        offends("#f", "port", 80);
        offends("a/..", "port", 80);
        new SoundnessTest().with(4, bent("", "port", 80)).due("an empty text", true);
    }

    private static void equalOrAhead() throws ReflectiveOperationException {
        Check.sentence("promise 47: EQUAL just if neither stands ahead in ORDER");
        Object other = bent("", "host", "c");
        new SoundnessTest().with(1, other).due("one of them", true);
        new SoundnessTest().with(1, other).with(5, made("")).due("the two", false);
        new SoundnessTest().with(1, made("")).with(5, other).due("the two, the other way round", false);
    }

    private static void equalNormalForms() throws ReflectiveOperationException {
        Check.sentence("promise 47: EQUAL ones have EQUAL NORMAL FORMS");
        Object other = bent("/a", "normalWhole", "/b");
        new SoundnessTest().with(0, other).due("one of them", true);
        new SoundnessTest().with(0, other).with(3, made("/a")).due("the two", false);
        new SoundnessTest().with(0, made("/a")).with(3, other).due("the two, the other way round", false);
    }

    /** Beyond the tables there are three that stand ahead of each other in a ring: by USERS, then by whole ones. */
    private static void threes() throws ReflectiveOperationException {
        Check.sentence("promise 47: what stands ahead of one that stands ahead of the third stands ahead of that");
        String[] ring = {"//" + (char) 127, "//u@a", "//~a"};
        for (int shift = 0; shift < 6; shift++) {
            SoundnessTest test = new SoundnessTest();
            for (int i = 0; i < 2; i++) {
                test.with((shift + i) % 6, made(ring[i])).due("part of the ring", true);
            }
            test.with((shift + 2) % 6, made(ring[2])).due("the ring", false);
        }
    }
}
