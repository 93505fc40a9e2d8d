import java.lang.reflect.InvocationTargetException;
import java.lang.reflect.Method;
import java.util.ArrayList;
import java.util.List;
import java.util.TreeSet;
import java.util.regex.Matcher;
import java.util.regex.Pattern;

/** What README.md says of the calls is what the document says, and its example answers as it says. */
final class ReadmeTest {
    private static final Pattern CALL = Pattern.compile("x\\.(\\w+)\\(([^)]*)\\);\\s*// ([^:]*)(:.*)?");
    private static final Pattern PROMISE = Pattern.compile("`[^`]*\\)( throws \\w+)?`: .*");

    private static final Due DUE = new Due();

    private final SectionFibres x = new SectionFibres();
    private final TreeSet<String> called = new TreeSet<>();

    public static void main(String[] args) {
        wordsOfTheDocument();
        new ReadmeTest().example();
        DUE.end("ReadmeTest");
    }

    private static void wordsOfTheDocument() {
        List<String> due = new ArrayList<>();
        for (String line : Papers.document()) {
            if (PROMISE.matcher(line).matches()) {
                due.add("- " + line);
            }
        }
        List<String> said = new ArrayList<>();
        for (String line : Papers.readme()) {
            if (line.startsWith("- ") && PROMISE.matcher(line.substring(2)).matches()) {
                said.add(line);
            }
        }
        DUE.is("how many promises the document has", due.size(), 18);
        DUE.is("how many calls README.md tells of", said.size(), due.size());
        for (String line : due) {
            DUE.is("README.md says " + line, said.contains(line), true);
        }
    }

    private void example() {
        for (String line : Papers.javaOf(Papers.readme())) {
            Matcher call = CALL.matcher(line);
            if (call.matches()) {
                sameAnswer(line, call.group(1), call.group(2), call.group(3));
            } else {
                boolean noCall = line.isBlank() || line.startsWith("// ") || line.equals("SectionFibres x = new SectionFibres();");
                DUE.is("README.md has an answer behind " + line, noCall, true);
            }
        }
        for (Method method : SectionFibres.class.getMethods()) {
            if (method.getDeclaringClass() == SectionFibres.class) {
                DUE.is("README.md's example calls " + method.getName(), called.contains(method.getName()), true);
            }
        }
    }

    private void sameAnswer(String line, String name, String numbers, String want) {
        called.add(name);
        String got = answer(name, numbers);
        DUE.is("README.md: " + line + " (it answers " + got + "): the same", got.equals(want), true);
    }

    private String answer(String name, String numbers) {
        try {
            for (Method method : SectionFibres.class.getMethods()) {
                if (method.getName().equals(name)) {
                    return method.invoke(x, given(method.getParameterTypes(), numbers)).toString();
                }
            }
            return "no such call";
        } catch (InvocationTargetException e) {
            return "throws " + e.getCause().getClass().getSimpleName();
        } catch (IllegalAccessException e) {
            return "is not public";
        }
    }

    private static Object[] given(Class<?>[] types, String numbers) {
        String[] written = numbers.split(", ");
        Object[] all = new Object[types.length];
        for (int i = 0; i < types.length; i++) {
            String digits = written[i].replace("_", "");
            all[i] = types[i] == long.class ? (Object) Long.valueOf(digits.replace("L", "")) : Integer.valueOf(digits);
        }
        return all;
    }
}
