import java.io.IOException;
import java.lang.reflect.InvocationTargetException;
import java.lang.reflect.Method;
import java.util.ArrayList;
import java.util.List;
import java.util.Set;
import java.util.function.Function;

/**
 * Each sentence of the document that names a boundary, with the calls and the answers that it asks:
 * on the program, and on the model that other tests lay beside it. Behind the calls, an object must
 * be like one that was spared those that threw, and those that only ask.
 */
public final class SentencesTest {
    /** The document tells nothing about later calls. */
    private static final int MOST_CALLS = 512;

    private static final Set<String> CHANGING = Set.of("append", "clearText", "load", "jewel",
            "exchange", "breakAt", "turnRound", "cut", "give", "take", "deal", "divide", "set", "undo",
            "save", "restore");

    private SentencesTest() {
    }

    public static void main(String[] args) throws IOException {
        int passed = 0;
        int failed = 0;
        for (Sentence sentence : Sentence.readAll()) {
            List<String> faults = faultsOf(sentence);
            if (faults.isEmpty()) {
                passed++;
            } else {
                failed++;
                System.out.println("Promise " + sentence.promise + ": \"" + sentence.words + "\"");
                faults.forEach(fault -> System.out.println("    " + fault));
            }
        }
        System.out.println("sentences: " + passed + " passed, " + failed + " failed");
        if (failed != 0 || passed == 0) {
            System.exit(1);
        }
    }

    private static List<String> faultsOf(Sentence sentence) {
        List<String> faults = new ArrayList<>();
        for (List<Sentence.Call> calls : sentence.objects) {
            if (calls.isEmpty() || calls.size() > MOST_CALLS) {
                faults.add(calls.size() + " calls on one object");
            }
            List<Sentence.Call> changes = new ArrayList<>();
            NecklaceSisters program = new NecklaceSisters();
            for (Sentence.Call call : calls) {
                String answer = answerOf(program, call);
                if (!isDue(answer, call)) {
                    faults.add(call.text + " answered " + answer + ", due is " + call.due);
                }
                if (CHANGING.contains(call.method.getName()) && !isThrown(answer)) {
                    changes.add(call);
                }
            }
            addFaultsBehind(calls, changes, faults);
            Model model = new Model();
            for (Sentence.Call call : calls) {
                String answer = answerOf(model, call);
                if (!isDue(answer, call)) {
                    faults.add("the model: " + call.text + " answered " + answer + ", due is " + call.due);
                }
            }
        }
        return faults;
    }

    private static boolean isThrown(String answer) {
        return answer.startsWith("throws.");
    }

    private static boolean isDue(String answer, Sentence.Call call) {
        return call.due == null ? !isThrown(answer) : answer.equals(call.due);
    }

    private static String answerOf(Object subject, Sentence.Call call) {
        try {
            Method method = subject.getClass().getDeclaredMethod(call.method.getName(),
                    call.method.getParameterTypes());
            return method.invoke(subject, call.arguments).toString();
        } catch (InvocationTargetException e) {
            return "throws." + e.getCause().getClass().getSimpleName();
        } catch (ReflectiveOperationException e) {
            throw new IllegalArgumentException(call.text, e);
        }
    }

    private static void addFaultsBehind(List<Sentence.Call> calls, List<Sentence.Call> changes,
            List<String> faults) {
        List<Function<NecklaceSisters, String>> views = List.of(SentencesTest::stateOf,
                SentencesTest::pastOf, x -> slotOf(x, 0), x -> slotOf(x, 1), SentencesTest::textOf);
        for (Function<NecklaceSisters, String> view : views) {
            String got = behind(calls, view);
            String want = behind(changes, view);
            if (!got.equals(want)) {
                faults.add("behind all calls: " + got + "; without those that change nothing: " + want);
            }
        }
    }

    private static String behind(List<Sentence.Call> calls, Function<NecklaceSisters, String> view) {
        NecklaceSisters x = new NecklaceSisters();
        for (Sentence.Call call : calls) {
            answerOf(x, call);
        }
        return view.apply(x);
    }

    private static String stateOf(NecklaceSisters x) {
        StringBuilder all = new StringBuilder(numbersOf(x));
        for (int i = 0; i < x.about(0); i++) {
            all.append(" |").append(x.jewelOf(i, 0)).append(' ').append(x.jewelOf(i, 1));
            all.append(' ').append(x.placeOf(i, 1)).append(' ').append(x.placeOf(i, 3));
        }
        return all.toString();
    }

    private static String numbersOf(NecklaceSisters x) {
        StringBuilder all = new StringBuilder();
        for (int what = 0; what < 10; what++) {
            all.append(' ').append(x.about(what));
        }
        return all.toString();
    }

    private static String pastOf(NecklaceSisters x) {
        StringBuilder all = new StringBuilder();
        String left = Checks.answerOf(x::undo);
        for (int i = 0; i < 20 && !isThrown(left); i++) {
            all.append(left).append(':').append(numbersOf(x)).append("; ");
            left = Checks.answerOf(x::undo);
        }
        return all.append(stateOf(x)).toString();
    }

    private static String slotOf(NecklaceSisters x, int slot) {
        return Checks.answerOf(() -> x.restore(slot)) + stateOf(x);
    }

    private static String textOf(NecklaceSisters x) {
        return x.errorPosition() + " " + Checks.answerOf(x::load) + stateOf(x) + " " + x.clearText();
    }
}
