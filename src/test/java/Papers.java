import java.io.IOException;
import java.io.UncheckedIOException;
import java.nio.file.Files;
import java.nio.file.Path;
import java.util.List;

/** The texts that tests compare the class with; tests run in the project's folder. */
final class Papers {
    private Papers() {
    }

    static List<String> document() {
        return lines("../shared/DOC.md");
    }

    static List<String> readme() {
        return lines("README.md");
    }

    static List<String> program() {
        return lines("src/main/java/SectionFibres.java");
    }

    /** The lines of the first block of Java in a text. */
    static List<String> javaOf(List<String> text) {
        int start = text.indexOf("```java") + 1;
        int end = start;
        while (end < text.size() && !text.get(end).equals("```")) {
            end++;
        }
        return text.subList(start, end);
    }

    private static List<String> lines(String path) {
        try {
            return Files.readAllLines(Path.of(path));
        } catch (IOException e) {
            throw new UncheckedIOException(e);
        }
    }
}
