import java.lang.reflect.Constructor;
import java.lang.reflect.Executable;
import java.lang.reflect.Field;
import java.lang.reflect.Method;
import java.lang.reflect.Modifier;
import java.lang.reflect.Parameter;
import java.util.ArrayList;
import java.util.List;

/**
 * The class shows the face as the document's 'The public face' writes it, and nothing beside it (rule 1 of
 * LANGUAGE.md). To be compiled with -parameters, so that the parameters have their names.
 */
final class FaceTest {
    private static final Class<SectionFibres> FACE = SectionFibres.class;
    private static final Due DUE = new Due();

    public static void main(String[] args) throws IllegalAccessException {
        theClass();
        theMembers();
        theClassesInside();
        noNameTwice();
        DUE.end("FaceTest");
    }

    private static void theClass() {
        List<String> written = Papers.javaOf(Papers.document());
        DUE.is("the document writes the class", written.contains(Modifier.toString(FACE.getModifiers()) + " class " + FACE.getName()
            + " {"), true);
        DUE.is("the class is under no other", FACE.getSuperclass() == Object.class, true);
        DUE.is("the interfaces of the class", FACE.getInterfaces().length, 0);
        DUE.is("the package's name is empty", FACE.getPackageName().isEmpty(), true);
    }

    private static void theMembers() throws IllegalAccessException {
        List<String> due = new ArrayList<>();
        for (String line : Papers.javaOf(Papers.document())) {
            if (line.endsWith(";")) {
                due.add(line.strip());
            }
        }
        List<String> shown = shown();
        DUE.is("how many members the document writes", due.size(), 19);
        DUE.is("how many members the class shows", shown.size(), due.size());
        for (String member : due) {
            DUE.is("the class has " + member, shown.contains(member), true);
        }
        for (String member : shown) {
            DUE.is("the document has " + member, due.contains(member), true);
        }
    }

    /** All that is not private, as the document writes it. */
    private static List<String> shown() throws IllegalAccessException {
        List<String> shown = new ArrayList<>();
        for (Field f : FACE.getDeclaredFields()) {
            if (!Modifier.isPrivate(f.getModifiers())) {
                String value = Modifier.isStatic(f.getModifiers()) ? " = " + f.get(null) : "";
                shown.add(Modifier.toString(f.getModifiers()) + " " + f.getType() + " " + f.getName() + value + ";");
            }
        }
        for (Constructor<?> c : FACE.getDeclaredConstructors()) {
            if (!Modifier.isPrivate(c.getModifiers())) {
                shown.add(Modifier.toString(c.getModifiers()) + " " + c.getName() + parameters(c) + thrown(c) + ";");
            }
        }
        for (Method m : FACE.getDeclaredMethods()) {
            if (!Modifier.isPrivate(m.getModifiers())) {
                String named = Modifier.toString(m.getModifiers()) + " " + m.getReturnType() + " " + m.getName();
                shown.add(named + parameters(m) + thrown(m) + ";");
            }
        }
        return shown;
    }

    private static String parameters(Executable made) {
        List<String> all = new ArrayList<>();
        for (Parameter p : made.getParameters()) {
            all.add(p.getType() + " " + p.getName());
        }
        return "(" + String.join(", ", all) + ")";
    }

    private static String thrown(Executable made) {
        StringBuilder text = new StringBuilder();
        for (Class<?> e : made.getExceptionTypes()) {
            text.append(" throws ").append(e.getSimpleName());
        }
        return text.toString();
    }

    private static void theClassesInside() {
        for (Class<?> inside : FACE.getDeclaredClasses()) {
            boolean hidden = !Modifier.isPublic(inside.getModifiers()) && !Modifier.isProtected(inside.getModifiers());
            DUE.is(inside + " is private or package-visible", hidden, true);
            DUE.is(inside + " is static", Modifier.isStatic(inside.getModifiers()), true);
        }
    }

    private static void noNameTwice() {
        List<String> faces = new ArrayList<>();
        for (Method m : FACE.getMethods()) {
            faces.add(m.getName());
        }
        List<Class<?>> all = new ArrayList<>(List.of(FACE.getDeclaredClasses()));
        all.add(FACE);
        for (Class<?> owner : all) {
            for (Method m : owner.getDeclaredMethods()) {
                if (!Modifier.isPublic(m.getModifiers())) {
                    DUE.is(m + " has a public one's name", faces.contains(m.getName()), false);
                }
            }
        }
    }
}
