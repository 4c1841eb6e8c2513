import java.lang.reflect.Constructor;
import java.lang.reflect.Field;
import java.lang.reflect.Method;
import java.lang.reflect.Modifier;
import java.util.Arrays;
import java.util.Set;
import java.util.TreeSet;
import java.util.stream.Collectors;

/** The public face of the document, and what LANGUAGE.md says of members and classes. */
final class FaceTest {
    private static final String FACE = "int scheme(int) IllegalArgumentException\n"
            + "int authority(int) IllegalArgumentException\n"
            + "boolean rooted(boolean) \n"
            + "int piece(int) IllegalArgumentException\n"
            + "int unpiece(int) IllegalArgumentException\n"
            + "boolean ended(boolean) \n"
            + "int query(int) IllegalArgumentException\n"
            + "int fragment(int) IllegalArgumentException\n"
            + "int wipe() \n"
            + "String draft() \n"
            + "boolean isLet() \n"
            + "int ofDraft(int) IllegalArgumentException\n"
            + "int weave(int) IndexOutOfBoundsException,IllegalStateException\n"
            + "int again(int,int) IndexOutOfBoundsException\n"
            + "int copy(int,int) IndexOutOfBoundsException\n"
            + "int swap(int,int) IndexOutOfBoundsException\n"
            + "int normalize(int,int) IndexOutOfBoundsException\n"
            + "int relativize(int,int,int) IndexOutOfBoundsException\n"
            + "int sort(boolean) \n"
            + "int best(boolean,int) IndexOutOfBoundsException\n"
            + "String text(int) IndexOutOfBoundsException\n"
            + "String schemeOf(int) IndexOutOfBoundsException\n"
            + "String restOf(int) IndexOutOfBoundsException\n"
            + "String authorityOf(int) IndexOutOfBoundsException\n"
            + "String userOf(int) IndexOutOfBoundsException\n"
            + "String hostOf(int) IndexOutOfBoundsException\n"
            + "int portOf(int) IndexOutOfBoundsException\n"
            + "String pathOf(int) IndexOutOfBoundsException\n"
            + "String queryOf(int) IndexOutOfBoundsException\n"
            + "String fragmentOf(int) IndexOutOfBoundsException\n"
            + "boolean isAbsolute(int) IndexOutOfBoundsException\n"
            + "boolean isOpaque(int) IndexOutOfBoundsException\n"
            + "boolean isNormal(int) IndexOutOfBoundsException\n"
            + "String normalText(int) IndexOutOfBoundsException\n"
            + "boolean isOther(int,int) IndexOutOfBoundsException,IllegalArgumentException\n"
            + "String relativeText(int,int) IndexOutOfBoundsException\n"
            + "boolean areEqual(int,int,int) IndexOutOfBoundsException,IllegalArgumentException\n"
            + "int order(int,int,int) IndexOutOfBoundsException,IllegalArgumentException\n"
            + "int oneHash(int,int) IndexOutOfBoundsException\n"
            + "int find(int,boolean) IndexOutOfBoundsException\n"
            + "int like(int) IndexOutOfBoundsException\n"
            + "int ahead(int) IndexOutOfBoundsException\n"
            + "int house(int) IllegalArgumentException\n"
            + "String faulty() \n"
            + "int knock() \n"
            + "boolean isSound() \n"
            + "long digest() ";

    public static void main(String[] args) {
        Class<?> face = Addressloom.class;
        Check.due("the class is public and final", face.getModifiers(), Modifier.PUBLIC | Modifier.FINAL);
        Check.due("the public methods", publicMethods(face), new TreeSet<>(Arrays.asList(FACE.split("\n"))));
        Check.due("how many constructors", face.getDeclaredConstructors().length, 1);
        for (Constructor<?> made : face.getDeclaredConstructors()) {
            Check.due("the constructor is public", made.getModifiers(), Modifier.PUBLIC);
            Check.due("the constructor's parameters", made.getParameterCount(), 0);
        }
        members(face);
        classes(face);
        Check.end("FaceTest");
    }

    private static Set<String> publicMethods(Class<?> face) {
        Set<String> found = new TreeSet<>();
        for (Method method : face.getDeclaredMethods()) {
            if (!Modifier.isPrivate(method.getModifiers())) {
                Check.due(method + " is public", method.getModifiers(), Modifier.PUBLIC);
                found.add(method.getReturnType().getSimpleName() + " " + method.getName() + "("
                        + names(method.getParameterTypes()) + ") " + names(method.getExceptionTypes()));
            }
        }
        return found;
    }

    private static String names(Class<?>[] types) {
        return Arrays.stream(types).map(Class::getSimpleName).collect(Collectors.joining(","));
    }

    private static Set<String> publicNames() {
        return Arrays.stream(FACE.split("\n")).map(line -> line.split("[ (]")[1]).collect(Collectors.toSet());
    }

    private static void members(Class<?> type) {
        int fields = 0;
        for (Field field : type.getDeclaredFields()) {
            Check.due(field + " is private", Modifier.isPrivate(field.getModifiers()), true);
            if (Modifier.isStatic(field.getModifiers())) {
                Check.due(field + " is final", Modifier.isFinal(field.getModifiers()), true);
            } else {
                fields++;
            }
        }
        Check.due(type + " has at most twenty fields", fields <= 20, true);
        Set<String> taken = publicNames();
        for (Method method : type.getDeclaredMethods()) {
            Check.due(method + " has at most seven parameters", method.getParameterCount() <= 7, true);
            if (Modifier.isPrivate(method.getModifiers())) {
                Check.due(method + " bears the name of a public one", taken.contains(method.getName()), false);
            }
        }
    }

    private static void classes(Class<?> face) {
        Check.due("at most twelve classes", face.getDeclaredClasses().length + 1 <= 12, true);
        for (Class<?> inner : face.getDeclaredClasses()) {
            Check.due(inner + " is static", Modifier.isStatic(inner.getModifiers()), true);
            Check.due(inner + " is private", Modifier.isPrivate(inner.getModifiers()), true);
            Check.due(inner + " has no classes inside", inner.getDeclaredClasses().length, 0);
            members(inner);
        }
    }
}
