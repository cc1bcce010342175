import java.util.Random;

/** The searches on long strings that can often be divided, with those of the model beside them. */
public final class SearchTest {
    private static final int STATES = 260;

    private SearchTest() {
    }

    public static void main(String[] args) {
        int[] fewest = new int[8];
        for (int seed = 0; seed < STATES; seed++) {
            fewest[1 + search(seed)]++;
        }
        for (int cuts = NecklaceSisters.NONE; cuts <= 5; cuts++) {
            Checks.same("some string has the fewest cuts " + cuts, "" + (fewest[1 + cuts] > 0),
                    cuts == 0 ? "false" : "true");
        }
        known("b4b9b7a3a9a8b6b9a2a5a5b9b3b3", 6);
        known("a8b3a2a6b4b3b2b9b8a2a6b7a7a7b9b7", 6);
        // These can be divided by 7 and by 8 cuts, which are too many.
        known("c8c3c7a4b5b6b1a6a1c5c1c4a1", NecklaceSisters.NONE);
        known("b5a5a9b8b6a7a9a7b7b8b7a8a9b1", NecklaceSisters.NONE);
        Checks.end();
    }

    private static void known(String jewels, int fewest) {
        NecklaceSisters program = new NecklaceSisters();
        Model model = new Model();
        for (int i = 0; i + 1 < jewels.length(); i += 2) {
            program.jewel(jewels.charAt(i) - 'a', jewels.charAt(i + 1) - '0');
            model.jewel(jewels.charAt(i) - 'a', jewels.charAt(i + 1) - '0');
        }
        program.set(1);
        model.set(1);
        Checks.due(jewels + ": fewest(0)", () -> program.fewest(0), fewest);
        Checks.due(jewels + ": fewest(1)", () -> program.fewest(1), fewest);
        compare(jewels + ": ", program, model, new Random(0));
    }

    private static int search(int seed) {
        Random random = new Random(seed);
        NecklaceSisters program = new NecklaceSisters();
        Model model = new Model();
        int setting = random.nextInt(3) == 0 ? 0 : 1;
        int pairs = 5 + random.nextInt(4);
        int kinds = 1 + random.nextInt(4);
        int heaviest = 1 + random.nextInt(9);
        for (int i = 0; i < pairs; i++) {
            int kind = random.nextInt(kinds);
            int weight = 1 + random.nextInt(heaviest);
            int twin = random.nextInt(9) == 0 ? 1 + random.nextInt(heaviest) : weight;
            program.jewel(kind, weight);
            model.jewel(kind, weight);
            program.jewel(kind, twin);
            model.jewel(kind, twin);
        }
        for (int i = 0; i < 2 * pairs; i++) {
            int other = random.nextInt(2 * pairs);
            program.exchange(i, other);
            model.exchange(i, other);
        }
        int broken = random.nextInt(2 * pairs);
        program.breakAt(broken);
        model.breakAt(broken);
        program.set(setting);
        model.set(setting);
        compare("seed " + seed + ": ", program, model, random);
        return program.fewest(0);
    }

    private static void compare(String run, NecklaceSisters program, Model model, Random random) {
        int fewest = model.fewest(0);
        Checks.due(run + "fewest(0)", () -> program.fewest(0), fewest);
        Checks.due(run + "fewest(1)", () -> program.fewest(1), fewest);
        for (int k = 0; k < 7; k++) {
            int cut = k;
            Checks.due(run + "divided(" + k + ")", () -> program.divided(cut),
                    k < fewest ? model.divided(k) : NecklaceSisters.NONE);
        }
        for (int m = 0; m < 5; m++) {
            int cuts = m;
            Checks.due(run + "leastGap(" + m + ")", () -> program.leastGap(cuts), model.leastGap(m));
        }
        if (random.nextInt(6) == 0) {
            Checks.due(run + "bestBreak()", program::bestBreak, model.bestBreak());
        }
        for (int n = 0; n < 10; n++) {
            long script = 70000 + n;
            Checks.due(run + "runScript(1, " + script + ")", () -> program.runScript(1, script),
                    fewest != -1 && fewest <= n ? -1 : 0);
        }
        Checks.same(run + "divide()", Checks.answerOf(program::divide), Checks.answerOf(model::divide));
        for (int what = 0; what < 10; what++) {
            int number = what;
            Checks.due(run + "about(" + what + ")", () -> program.about(number), model.about(what));
        }
    }
}
