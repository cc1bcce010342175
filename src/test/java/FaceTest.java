import java.io.IOException;
import java.lang.reflect.Constructor;
import java.lang.reflect.Field;
import java.lang.reflect.Method;
import java.lang.reflect.Modifier;
import java.nio.charset.StandardCharsets;
import java.nio.file.Files;
import java.nio.file.Path;
import java.util.Set;
import java.util.TreeSet;

/** The class has the document's face and nothing beside it; some rules of LANGUAGE.md by words. */
public final class FaceTest {
    private static final String[] FACE = {
        "about(int)", "append(int)", "bestBreak()", "bestRun()", "breakAt(int)", "clearText()",
        "cut(int,boolean)", "deal(int)", "divide()", "divided(int)", "errorPosition()",
        "exchange(int,int)", "fewest(int)", "give(int,int)", "has(int,int)", "ifGiven(int,int)",
        "jewel(int,int)", "jewelOf(int,int)", "leastGap(int)", "load()", "placeOf(int,int)",
        "restore(int)", "runOf(int,int)", "runScript(int,long)", "save(int)", "set(int)",
        "simulate(long,int)", "take(int)", "turnRound()", "undo()"};

    private static final String[] FORBIDDEN = {
        "import ", "package ", "->", "::", "catch", "finally", "synchronized", "assert ",
        "System.out", "Random", "nanoTime", "currentTimeMillis", "hashCode", "toString", "Exact("};

    private FaceTest() {
    }

    public static void main(String[] args) throws IOException {
        checkFace();
        checkWords();
        Checks.end();
    }

    private static void checkFace() {
        Class<NecklaceSisters> type = NecklaceSisters.class;
        Checks.same("modifiers", Modifier.toString(type.getModifiers()), "public final");
        Set<String> open = new TreeSet<>();
        Set<String> hidden = new TreeSet<>();
        for (Method method : type.getDeclaredMethods()) {
            if (Modifier.isPrivate(method.getModifiers())) {
                hidden.add(method.getName());
            } else {
                open.add(signature(method));
                Checks.same(method.getName() + " is public and of the object",
                        Modifier.toString(method.getModifiers()), "public");
                Checks.same(method.getName() + " returns", method.getReturnType().getName(), "int");
            }
        }
        Checks.same("face", open.toString(), new TreeSet<>(Set.of(FACE)).toString());
        for (Method method : type.getDeclaredMethods()) {
            if (Modifier.isPublic(method.getModifiers())) {
                Checks.same("private " + method.getName(),
                        "" + hidden.contains(method.getName()), "false");
            }
        }
        for (Field field : type.getDeclaredFields()) {
            if (!Modifier.isPrivate(field.getModifiers())) {
                Checks.same("open field", field.toString(), "public static final int NecklaceSisters.NONE");
            }
        }
        Constructor<?>[] constructors = type.getDeclaredConstructors();
        Checks.same("constructors", "" + constructors.length, "1");
        Checks.same("constructor", constructors[0].toString(), "public NecklaceSisters()");
        Checks.same("NONE", "" + NecklaceSisters.NONE, "-1");
    }

    private static String signature(Method method) {
        StringBuilder text = new StringBuilder(method.getName()).append('(');
        for (Class<?> type : method.getParameterTypes()) {
            text.append(text.charAt(text.length() - 1) == '(' ? "" : ",").append(type.getName());
        }
        return text.append(')').toString();
    }

    private static void checkWords() throws IOException {
        Path path = Path.of("src/main/java/NecklaceSisters.java");
        String source = new String(Files.readAllBytes(path), StandardCharsets.UTF_8);
        for (String word : FORBIDDEN) {
            Checks.same("the program has \"" + word + "\"", "" + source.contains(word), "false");
        }
    }
}
