import java.io.IOException;
import java.lang.reflect.Method;
import java.nio.charset.StandardCharsets;
import java.nio.file.Files;
import java.nio.file.Path;
import java.util.ArrayList;
import java.util.List;

/**
 * A sentence of the document with the calls and the answers that it asks, as it stands in a file
 * of src/test/sentences. README.md tells what the rows of such a file mean.
 */
final class Sentence {
    private static final Path FOLDER = Path.of("src/test/sentences");
    private static final long FACTOR = 6364136223846793005L;
    private static final long SUMMAND = 1442695040888963407L;

    final int promise;
    final String words;
    /** The calls on each object; a sentence may ask for several objects. */
    final List<List<Call>> objects = new ArrayList<>();

    private Sentence(int promise, String words) {
        this.promise = promise;
        this.words = words;
        objects.add(new ArrayList<>());
    }

    /** A call; without a due answer it may answer anything, but not throw. */
    static final class Call {
        final Method method;
        final Object[] arguments;
        final String text;
        final String due;

        Call(Method method, Object[] arguments, String text, String due) {
            this.method = method;
            this.arguments = arguments;
            this.text = text;
            this.due = due;
        }
    }

    static List<Sentence> readAll() throws IOException {
        List<Path> files = new ArrayList<>();
        try (var entries = Files.list(FOLDER)) {
            entries.sorted().forEach(files::add);
        }
        List<Sentence> all = new ArrayList<>();
        for (Path file : files) {
            int promise = Integer.parseInt(file.getFileName().toString().substring(0, 2));
            for (String row : Files.readAllLines(file, StandardCharsets.US_ASCII)) {
                if (row.startsWith("== ")) {
                    all.add(new Sentence(promise, row.substring(3)));
                } else if (!row.isEmpty() && !row.startsWith("#")) {
                    all.get(all.size() - 1).addRow(row);
                }
            }
        }
        return all;
    }

    private void addRow(String row) {
        if (row.equals("new")) {
            objects.add(new ArrayList<>());
        } else if (row.startsWith("text ")) {
            addCall("clearText()", 0, null);
            for (char sign : row.substring(5).toCharArray()) {
                addCall("append(" + (int) sign + ")", 0, null);
            }
        } else if (row.startsWith("jewels ")) {
            for (int i = 7; i + 1 < row.length(); i += 2) {
                addCall("jewel(" + (row.charAt(i) - 'a') + ", " + row.charAt(i + 1) + ")", 0, null);
            }
        } else {
            addCalls(row);
        }
    }

    /** One call for each due answer, or as many as are told ahead of it. */
    private void addCalls(String row) {
        String[] sides = row.split(" = ", 2);
        String[] due = sides.length > 1 ? sides[1].split(" ") : new String[] {null};
        String call = sides[0];
        int times = due.length;
        int sign = call.indexOf(" x ");
        if (sign >= 0) {
            times = Integer.parseInt(call.substring(0, sign));
            call = call.substring(sign + 3);
        }
        for (int i = 0; i < times; i++) {
            addCall(call, i, due.length > 1 ? due[i] : due[0]);
        }
    }

    private void addCall(String call, int index, String due) {
        int open = call.indexOf('(');
        Method method = methodNamed(call.substring(0, open));
        Class<?>[] types = method.getParameterTypes();
        String inside = call.substring(open + 1, call.length() - 1);
        String[] words = inside.isEmpty() ? new String[0] : inside.split(", ");
        if (words.length != types.length || !call.endsWith(")")) {
            throw new IllegalArgumentException(call);
        }
        Object[] arguments = new Object[types.length];
        for (int i = 0; i < types.length; i++) {
            arguments[i] = argument(words[i], types[i], index);
        }
        List<Call> calls = objects.get(objects.size() - 1);
        calls.add(new Call(method, arguments, told(method, arguments), due));
    }

    private static String told(Method method, Object[] arguments) {
        StringBuilder text = new StringBuilder(method.getName()).append('(');
        for (int i = 0; i < arguments.length; i++) {
            text.append(i == 0 ? "" : ", ").append(arguments[i]);
        }
        return text.append(')').toString();
    }

    private static Method methodNamed(String name) {
        for (Method method : NecklaceSisters.class.getMethods()) {
            if (method.getName().equals(name)) {
                return method;
            }
        }
        throw new IllegalArgumentException("no method " + name);
    }

    private static Object argument(String word, Class<?> type, int index) {
        if (type == boolean.class) {
            if (!word.equals("true") && !word.equals("false")) {
                throw new IllegalArgumentException(word);
            }
            return word.equals("true");
        }
        if (word.startsWith("r:")) {
            return seedFor(Integer.parseInt(word.substring(2)));
        }
        if (word.endsWith("..")) {
            return Integer.parseInt(word.substring(0, word.length() - 2)) + index;
        }
        if (type == int.class) {
            return Integer.parseInt(word);
        }
        return Long.parseLong(word);
    }

    /** The seed of a simulation whose first turn has the given r. */
    private static long seedFor(int r) {
        long inverse = FACTOR;
        for (int i = 0; i < 6; i++) {
            inverse *= 2 - FACTOR * inverse;
        }
        return (((long) r << 33) - SUMMAND) * inverse;
    }
}
