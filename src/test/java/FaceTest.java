import java.lang.reflect.Constructor;
import java.lang.reflect.Field;
import java.lang.reflect.Method;
import java.lang.reflect.Modifier;
import java.util.TreeSet;

/** The public face: just the constants, the constructor and the methods of the document. */
public final class FaceTest {
    private static final String[] METHODS = {
        "int step(int,int)", "int record()", "int end()", "int dropTry(int)",
        "int generalise(int,int)", "int fold(int)", "int setTurns(int,int)", "int dropLoop(int)",
        "int play(int)", "int type(char)", "int clearText()", "int perform()", "int undo()",
        "int keep()", "int restore()", "int cell(int)", "int ofTry(int,int,int)",
        "int ofLoop(int,int,int)", "int length(int,int)", "int total(int)",
        "int alike(int,int,int)", "int bestPair(int)", "int fits(int,int)", "int mostTurns(int)",
        "int ifPlayed(int,int,int)", "int fewestTurns(int,int,int)",
    };
    private static final String[] CONSTANTS = {
        "UNKNOWN", "OUT_OF_RANGE", "FULL", "NOT_POSSIBLE", "NONE",
    };

    public static void main(String[] args) throws Exception {
        int modifiers = TryLoops.class.getModifiers();
        Due.holds("the class is public and final", Modifier.isPublic(modifiers) && Modifier.isFinal(modifiers));
        methods();
        constants();
        Constructor<?>[] constructors = TryLoops.class.getDeclaredConstructors();
        Due.is("constructors", constructors.length, 1);
        Due.is("arguments of the constructor", constructors[0].getParameterCount(), 0);
        Due.holds("the constructor is public", Modifier.isPublic(constructors[0].getModifiers()));
        for (Class<?> inside : TryLoops.class.getDeclaredClasses()) {
            int its = inside.getModifiers();
            Due.holds(inside + " is static and not public",
                    Modifier.isStatic(its) && !Modifier.isPublic(its) && !Modifier.isProtected(its));
        }
        Due.end();
    }

    private static void methods() {
        TreeSet<String> got = new TreeSet<>();
        TreeSet<String> publicNames = new TreeSet<>();
        for (Method method : TryLoops.class.getDeclaredMethods()) {
            if (!Modifier.isPrivate(method.getModifiers()) && !method.isSynthetic()) {
                got.add(faceOf(method));
                publicNames.add(method.getName());
                Due.holds(method + " is public, of the object, and throws nothing",
                        method.getModifiers() == Modifier.PUBLIC && method.getExceptionTypes().length == 0);
            }
        }
        Due.holds("the methods are those of the document: " + got, got.equals(new TreeSet<>(java.util.List.of(METHODS))));
        for (Method method : TryLoops.class.getDeclaredMethods()) {
            if (Modifier.isPrivate(method.getModifiers())) {
                Due.holds(method + " bears no public name", !publicNames.contains(method.getName()));
            }
        }
    }

    private static String faceOf(Method method) {
        StringBuilder face = new StringBuilder();
        face.append(method.getReturnType()).append(' ').append(method.getName()).append('(');
        for (int i = 0; i < method.getParameterCount(); i++) {
            face.append(i > 0 ? "," : "").append(method.getParameterTypes()[i]);
        }
        return face.append(')').toString();
    }

    private static void constants() throws Exception {
        TreeSet<String> got = new TreeSet<>();
        for (Field field : TryLoops.class.getDeclaredFields()) {
            int modifiers = field.getModifiers();
            if (!Modifier.isPrivate(modifiers)) {
                got.add(field.getName());
                Due.holds(field + " is public static final int", field.getType() == int.class
                        && modifiers == (Modifier.PUBLIC | Modifier.STATIC | Modifier.FINAL));
            }
        }
        Due.holds("the constants are those of the document: " + got, got.equals(new TreeSet<>(java.util.List.of(CONSTANTS))));
        Due.is("UNKNOWN", TryLoops.UNKNOWN, -1);
        Due.is("OUT_OF_RANGE", TryLoops.OUT_OF_RANGE, -2);
        Due.is("FULL", TryLoops.FULL, -3);
        Due.is("NOT_POSSIBLE", TryLoops.NOT_POSSIBLE, -4);
        Due.is("NONE", TryLoops.NONE, -5);
    }
}
