import java.lang.reflect.Constructor;
import java.lang.reflect.Executable;
import java.lang.reflect.Field;
import java.lang.reflect.Method;
import java.lang.reflect.Modifier;
import java.util.ArrayList;
import java.util.Arrays;
import java.util.List;
import java.util.TreeSet;

/** The class shows the document's face and nothing else (rules 1 and 5 of LANGUAGE.md). */
final class FaceTest {
    private static final String INDEX = " throws ArrayIndexOutOfBoundsException";
    private static final List<String> FACE = List.of(
        "BAD int", "SectionFibres()",
        "int fibre(int, int, int)", "boolean point(int, int, int)", "boolean born(int, int)",
        "boolean creeps(int, int)", "boolean shrinks(int, int)", "boolean keeps(int, int)",
        "int row(int, int)" + INDEX, "long of(int, int, int)", "int balance(long, int)", "int run(long, long)",
        "int told(int)", "long residual(int)", "int in(int, int)" + INDEX, "long curve(long, int, int)",
        "int last(long, int)", "int needed(int, int, int, long, long)", "int count(int)");

    public static void main(String[] args) {
        Due due = new Due();
        Class<SectionFibres> face = SectionFibres.class;
        due.is("the class is public and final", face.getModifiers() == (Modifier.PUBLIC | Modifier.FINAL), true);
        List<String> shown = shown(face);
        for (String member : FACE) {
            due.is("the class has " + member, shown.contains(member), true);
        }
        for (String member : shown) {
            due.is("the document has " + member, FACE.contains(member), true);
        }
        for (Class<?> inside : face.getDeclaredClasses()) {
            boolean hidden = !Modifier.isPublic(inside.getModifiers()) && !Modifier.isProtected(inside.getModifiers());
            due.is(inside + " is hidden and static", hidden && Modifier.isStatic(inside.getModifiers()), true);
            staticsAreFinal(due, inside);
        }
        staticsAreFinal(due, face);
        noNameTwice(due, face);
        due.end("FaceTest");
    }

    private static List<String> shown(Class<?> face) {
        List<String> shown = new ArrayList<>();
        for (Field f : face.getDeclaredFields()) {
            if (!Modifier.isPrivate(f.getModifiers())) {
                shown.add(f.getName() + " " + f.getType());
            }
        }
        for (Constructor<?> c : face.getDeclaredConstructors()) {
            if (!Modifier.isPrivate(c.getModifiers())) {
                shown.add("SectionFibres" + parameters(c));
            }
        }
        for (Method m : face.getDeclaredMethods()) {
            if (!Modifier.isPrivate(m.getModifiers())) {
                shown.add(m.getReturnType() + " " + m.getName() + parameters(m) + thrown(m));
            }
        }
        return shown;
    }

    private static String parameters(Executable made) {
        return Arrays.toString(made.getParameterTypes()).replace('[', '(').replace(']', ')');
    }

    private static String thrown(Method method) {
        StringBuilder text = new StringBuilder();
        for (Class<?> e : method.getExceptionTypes()) {
            text.append(" throws ").append(e.getSimpleName());
        }
        return text.toString();
    }

    private static void staticsAreFinal(Due due, Class<?> owner) {
        for (Field f : owner.getDeclaredFields()) {
            boolean loose = Modifier.isStatic(f.getModifiers()) && !Modifier.isFinal(f.getModifiers());
            due.is(f + " is final if it is static", loose, false);
        }
    }

    private static void noNameTwice(Due due, Class<?> face) {
        TreeSet<String> names = new TreeSet<>();
        for (Method m : face.getDeclaredMethods()) {
            due.is("one method is called " + m.getName(), names.add(m.getName()), true);
        }
    }
}
