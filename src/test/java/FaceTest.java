import java.lang.reflect.Constructor;
import java.lang.reflect.Field;
import java.lang.reflect.Method;
import java.lang.reflect.Modifier;
import java.util.Arrays;
import java.util.Set;
import java.util.TreeSet;

/** The public face is the document's, and nothing else of the class is seen from outside. */
public final class FaceTest {
    private static final Set<String> FACE = new TreeSet<>(Arrays.asList(
        "int bar(boolean, int)", "int piece(int, int, int)", "int cue(int)", "int move(int, int, int, int, int)",
        "int crew(int)", "boolean below(int, boolean, boolean)",
        "int hang(int, int)", "int take(int)", "int counter(int, int)", "int go(int)", "boolean stop(boolean)",
        "int end()", "boolean brake(int, boolean)", "int pass(int)",
        "int ofBar(int, int)", "int ofPiece(int, int)", "int ofMove(int, int, int)", "boolean touch(int, int)",
        "int many(int)", "double meanHeight()",
        "int secondsFor(int)", "int stopsAt(int)", "int wouldHurt(int)", "int fits(int)", "long digest()"));

    public static void main(String[] args) {
        Check check = new Check();
        int modifiers = FlyTower.class.getModifiers();
        check.due("the class is public and final", Modifier.isPublic(modifiers) && Modifier.isFinal(modifiers), true);
        methods(check);
        members(check);
        check.end();
    }

    private static void methods(Check check) {
        Set<String> seen = new TreeSet<>();
        Set<String> publicNames = new TreeSet<>();
        Set<String> privateNames = new TreeSet<>();
        for (Method method : FlyTower.class.getDeclaredMethods()) {
            if (Modifier.isPrivate(method.getModifiers())) {
                privateNames.add(method.getName());
            } else {
                publicNames.add(method.getName());
                check.due(method + " is public", Modifier.isPublic(method.getModifiers()), true);
                check.due(method + " is static", Modifier.isStatic(method.getModifiers()), false);
                String parameters = Arrays.toString(method.getParameterTypes());
                seen.add(method.getReturnType() + " " + method.getName()
                    + "(" + parameters.substring(1, parameters.length() - 1) + ")");
            }
        }
        if (!seen.equals(FACE)) {
            check.report("the face is " + seen + ", due is " + FACE);
        }
        privateNames.retainAll(publicNames);
        check.due("private methods with the name of a public one " + privateNames, privateNames.size(), 0);
    }

    private static void members(Check check) {
        for (Field field : FlyTower.class.getDeclaredFields()) {
            check.due(field + " is private", Modifier.isPrivate(field.getModifiers()), true);
        }
        for (Class<?> inside : FlyTower.class.getDeclaredClasses()) {
            int modifiers = inside.getModifiers();
            check.due(inside + " is seen from outside",
                Modifier.isPublic(modifiers) || Modifier.isProtected(modifiers), false);
        }
        Constructor<?>[] constructors = FlyTower.class.getDeclaredConstructors();
        check.due("constructors", constructors.length, 1);
        check.due("parameters of the constructor", constructors[0].getParameterCount(), 0);
        check.due("the constructor is public", Modifier.isPublic(constructors[0].getModifiers()), true);
    }
}
