import java.lang.reflect.Field;
import java.lang.reflect.Method;
import java.lang.reflect.Modifier;
import java.util.ArrayList;
import java.util.List;
import java.util.Set;
import java.util.regex.Matcher;
import java.util.regex.Pattern;

/** The rules of LANGUAGE.md that can be seen in the program's text or by reflection; FaceTest has rule 1. */
final class LanguageTest {
    // What the rules rule out, or leave only for cases that this program has none of.
    private static final String[] NEVER = {
        "->", "::", "\\bimport\\b", "\\bpackage\\b", "\\btry\\b", "\\bcatch\\b", "\\bfinally\\b", "\\bsynchronized\\b", "\\bassert\\b",
        "\\bstatic\\s*\\{", "Exact\\b", "\\bwhile \\(true\\)", "for \\(;", "; ;", "\\bSystem\\b", "\\bThread\\b", "\\bObject\\b",
        "\\bequals\\b", "\\bhashCode\\b", "\\btoString\\b",
    };
    private static final Set<String> CONSTANTS = Set.of("int", "long", "boolean", "char", "class java.lang.String");

    private static final Due DUE = new Due();

    public static void main(String[] args) {
        List<String> code = code();
        wordsThatAreOut(code);
        whatIsThrown(code);
        whatIsMade(code);
        lengthOfMethods(code);
        classesAndFields();
        DUE.end("LanguageTest");
    }

    /** The program's lines without comments and without what stands in texts. */
    private static List<String> code() {
        List<String> code = new ArrayList<>();
        for (String line : Papers.program()) {
            String start = line.strip();
            boolean comment = start.startsWith("/*") || start.startsWith("*") || start.startsWith("//");
            code.add(comment ? "" : line.replaceAll("\"[^\"]*\"", "\"\"").replaceAll("//.*", ""));
        }
        return code;
    }

    private static void wordsThatAreOut(List<String> code) {
        for (String word : NEVER) {
            Pattern pattern = Pattern.compile(word);
            for (String line : code) {
                DUE.is("rules 2, 4, 6, 9 and 13: " + word + " stands in " + line, pattern.matcher(line).find(), false);
            }
        }
    }

    /** The document names one exception, for two calls. */
    private static void whatIsThrown(List<String> code) {
        Pattern thrown = Pattern.compile("throw new (\\w+)\\(\"\"\\);");
        int throwing = 0;
        for (String line : code) {
            if (line.matches(".*\\bthrow\\b.*")) {
                throwing++;
                Matcher found = thrown.matcher(line);
                boolean asDue = found.find() && found.group(1).equals("ArrayIndexOutOfBoundsException");
                DUE.is("rule 6: what is thrown in " + line, asDue, true);
            }
        }
        DUE.is("rule 6: how many throw statements there are", throwing, 2);
    }

    /** Only what a new object is made of, so that no number of calls fills the room. */
    private static void whatIsMade(List<String> code) {
        Pattern ofAnObject = Pattern.compile("( private final [\\w\\[\\]]+ \\w+ = new .*)|(\\s+section = new Section\\(\\);)");
        for (String line : code) {
            if (line.matches(".*\\bnew\\b.*") && !line.contains("throw new ")) {
                DUE.is("rule 12: made with the object: " + line, ofAnObject.matcher(line).find(), true);
            }
        }
    }

    private static void lengthOfMethods(List<String> code) {
        Pattern head = Pattern.compile("(\\s+)(public|private) [\\w ]*\\(.*\\{");
        for (int i = 0; i < code.size(); i++) {
            Matcher start = head.matcher(code.get(i));
            if (start.matches()) {
                int end = i;
                while (end < code.size() && !code.get(end).equals(start.group(1) + "}")) {
                    end++;
                }
                DUE.is("rule 11: at most 60 lines: " + code.get(i), end - i <= 60, true);
            }
        }
    }

    private static void classesAndFields() {
        List<Class<?>> all = new ArrayList<>(List.of(SectionFibres.class.getDeclaredClasses()));
        all.add(SectionFibres.class);
        DUE.is("rule 11: at most 12 classes", all.size() <= 12, true);
        for (Class<?> owner : all) {
            int fields = 0;
            for (Field f : owner.getDeclaredFields()) {
                if (Modifier.isStatic(f.getModifiers())) {
                    DUE.is("rule 5: a constant: " + f, Modifier.isFinal(f.getModifiers()) && CONSTANTS.contains("" + f.getType()), true);
                } else {
                    fields++;
                }
            }
            DUE.is("rule 11: at most 20 fields in " + owner, fields <= 20, true);
            for (Method m : owner.getDeclaredMethods()) {
                DUE.is("rule 11: at most 7 parameters: " + m, m.getParameterCount() <= 7, true);
            }
        }
    }
}
