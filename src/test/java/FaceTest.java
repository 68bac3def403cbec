import java.lang.reflect.Constructor;
import java.lang.reflect.Field;
import java.lang.reflect.Method;
import java.lang.reflect.Modifier;
import java.util.Set;
import java.util.TreeSet;

/** The public face of the document, and nothing beside it that is not private. */
public final class FaceTest {
    private static final String NO_INDEX = "java.lang.IndexOutOfBoundsException";
    private static final String NO_STATE = "java.lang.IllegalStateException";
    private static final String NO_ARGUMENT = "java.lang.IllegalArgumentException";

    private FaceTest() {
    }

    public static void main(String[] args) {
        Class<?> face = FableIndex.class;
        Check.due("the class is public and final",
                Modifier.isPublic(face.getModifiers()) && Modifier.isFinal(face.getModifiers()), true);
        same(methods(face), dueMethods());
        Constructor<?>[] constructors = face.getDeclaredConstructors();
        Check.due("constructors", constructors.length, 1);
        Check.due("the constructor is public and takes nothing",
                Modifier.isPublic(constructors[0].getModifiers()) && constructors[0].getParameterCount() == 0, true);
        for (Field field : face.getDeclaredFields()) {
            Check.due("field " + field.getName() + " is private", Modifier.isPrivate(field.getModifiers()), true);
        }
        for (Class<?> inside : face.getDeclaredClasses()) {
            Check.due(inside.getName() + " is private and static", Modifier.isPrivate(inside.getModifiers())
                    && Modifier.isStatic(inside.getModifiers()), true);
        }
        Check.end();
    }

    private static Set<String> methods(Class<?> face) {
        Set<String> methods = new TreeSet<>();
        for (Method method : face.getDeclaredMethods()) {
            if (!Modifier.isPrivate(method.getModifiers())) {
                methods.add(method.toString());
            }
        }
        return methods;
    }

    private static Set<String> dueMethods() {
        Set<String> due = new TreeSet<>();
        put(due, "int", NO_INDEX + "," + NO_STATE, "addFable(int,int,int)", "addBeast(int,int)",
                "addVariant(int,int,int,int)", "tell(int,int)", "forget(int,int)");
        put(due, "boolean", NO_INDEX + "," + NO_ARGUMENT, "turnPass(int,int)");
        put(due, "boolean", NO_INDEX, "turnMoral(int,int)", "turnBeast(int,int)", "hasBeast(int,int)",
                "isOpen(int,int)", "isBanned(int,int)", "isTold(int,int)");
        put(due, "int", NO_INDEX, "moralOf(int)", "beastsOf(int)", "homeOf(int)", "parentOf(int)", "variantsOf(int)",
                "valleysOf(int)", "nearestAncestor(int,int)", "kinship(int,int)", "sharedBeasts(int,int)",
                "toldIn(int)", "allowedIn(int)", "bansOf(int)", "fablesWithMoral(int)", "fablesWithBeast(int)",
                "seasonsUntil(int,int)");
        put(due, "int", NO_ARGUMENT, "passSeasons(int)", "tellingsAfter(int)", "bestPass(int)");
        put(due, "int", "", "fables()", "season()", "tellings()", "silenced()", "favouriteMoral()",
                "favouriteBeast()");
        put(due, "double", "", "meanBeasts()");
        put(due, "long", "", "digest()");
        return due;
    }

    private static void put(Set<String> due, String answer, String exceptions, String... calls) {
        for (String call : calls) {
            String thrown = exceptions.isEmpty() ? "" : " throws " + exceptions;
            due.add("public " + answer + " FableIndex." + call + thrown);
        }
    }

    private static void same(Set<String> got, Set<String> want) {
        for (String one : want) {
            Check.due("the face has " + one, got.contains(one), true);
        }
        for (String one : got) {
            Check.due("the document has " + one, want.contains(one), true);
        }
    }
}
