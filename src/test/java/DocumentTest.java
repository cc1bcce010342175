import java.io.IOException;
import java.lang.reflect.Method;
import java.lang.reflect.Modifier;
import java.nio.charset.StandardCharsets;
import java.nio.file.Files;
import java.nio.file.Path;
import java.util.List;
import java.util.Set;
import java.util.TreeSet;

/**
 * The sentences of src/test/sentences stand in the document, in the section of their promise or
 * ahead of all promises; of each promise, every paragraph and argument is quoted by one; and the
 * class has the methods that the document's face tells, with the exceptions that it tells.
 */
public final class DocumentTest {
    private static final Path DOCUMENT = Path.of("../shared/DOC.md");
    private static final int PROMISES = 31;

    private DocumentTest() {
    }

    public static void main(String[] args) throws IOException {
        String document = new String(Files.readAllBytes(DOCUMENT), StandardCharsets.UTF_8);
        checkFace(document);
        checkSentences(document, Sentence.readAll());
        Checks.end();
    }

    private static void checkFace(String document) {
        Set<String> due = new TreeSet<>();
        int end = document.indexOf("## Terms");
        for (String line : document.substring(0, Math.max(0, end)).split("\n")) {
            if (line.startsWith("    public int ")) {
                due.add(line.substring(11).replaceAll(" [a-z]\\w*(?=[,)])", "").replace(";", ""));
            }
        }
        Set<String> got = new TreeSet<>();
        for (Method method : NecklaceSisters.class.getDeclaredMethods()) {
            if (Modifier.isPublic(method.getModifiers())) {
                got.add(told(method));
            }
        }
        Checks.same("face", got.toString(), due.toString());
    }

    private static String told(Method method) {
        return method.getReturnType() + " " + method.getName() + "(" + names(method.getParameterTypes())
                + ")" + (method.getExceptionTypes().length == 0 ? "" : " throws ")
                + names(method.getExceptionTypes());
    }

    private static String names(Class<?>[] types) {
        StringBuilder text = new StringBuilder();
        for (Class<?> type : types) {
            text.append(text.length() == 0 ? "" : ", ").append(type.getSimpleName());
        }
        return text.toString();
    }

    private static void checkSentences(String document, List<Sentence> sentences) {
        String general = flat(document.substring(0, document.indexOf("## Promise 1:")));
        for (Sentence sentence : sentences) {
            String section = flat(section(document, sentence.promise));
            boolean stands = section.contains(sentence.words) || general.contains(sentence.words);
            Checks.same("Promise " + sentence.promise + ": \"" + sentence.words + "\" stands there",
                    "" + stands, "true");
        }
        for (int promise = 1; promise <= PROMISES; promise++) {
            for (String paragraph : section(document, promise).split("\n\n|\n(?=- )")) {
                Checks.same("Promise " + promise + ": \"" + paragraph + "\" is quoted",
                        "" + isQuoted(flat(paragraph), promise, sentences), "true");
            }
        }
        Checks.same("there is one promise more", "" + document.contains("## Promise " + (PROMISES + 1)),
                "false");
    }

    private static boolean isQuoted(String paragraph, int promise, List<Sentence> sentences) {
        for (Sentence sentence : sentences) {
            if (sentence.promise == promise && paragraph.contains(sentence.words)) {
                return true;
            }
        }
        return false;
    }

    /** What stands behind the promise's heading. */
    private static String section(String document, int promise) {
        int heading = document.indexOf("## Promise " + promise + ":");
        int start = document.indexOf('\n', heading);
        int end = document.indexOf("\n## ", start);
        return heading < 0 || end < 0 ? "" : document.substring(start, end).trim();
    }

    /** Without the signs of a code, and with single blanks for all white space. */
    private static String flat(String text) {
        return text.replace("`", "").replaceAll("\\s+", " ");
    }
}
