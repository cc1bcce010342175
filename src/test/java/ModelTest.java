import java.util.Random;

/** Long runs of calls, drawn by chance from fixed seeds, on the program and on the model. */
public final class ModelTest {
    private static final int RUNS = 800;
    private static final int CALLS = 490;
    private static final int[] EDGES = {-2, -1, 0, 1, 2, 3, 4, 5, 6, 7, 9, 10, 14, 15, 16, 17, 100,
        Integer.MIN_VALUE, Integer.MAX_VALUE};

    private final Random random;
    private final int run;
    private final int size;
    private final NecklaceSisters program = new NecklaceSisters();
    private final Model model = new Model();
    private String text = "";

    private ModelTest(int run) {
        this.run = run;
        random = new Random(run);
        size = 1 + random.nextInt(17);
    }

    public static void main(String[] args) {
        for (int run = 0; run < RUNS && !Checks.anyWrong(); run++) {
            new ModelTest(run).play();
        }
        Checks.end();
    }

    private void both(String call, Checks.Call got, Checks.Call want) {
        Checks.same("run " + run + ": " + call, Checks.answerOf(got), Checks.answerOf(want));
    }

    private void play() {
        boolean alike = random.nextInt(3) != 0;
        boolean reads = random.nextInt(3) == 0;
        for (int i = 0; i < size && i < 16 && random.nextInt(30) != 0; i++) {
            jewel(random.nextInt(alike ? 2 : 4), 1 + random.nextInt(alike ? 2 : 9));
        }
        for (int i = 0; i < CALLS && !Checks.anyWrong(); i++) {
            if (reads && text.isEmpty() && random.nextInt(60) == 0) {
                text = random.nextInt(3) == 0 ? spoilt(necklace()) : necklace();
                both("clearText()", program::clearText, model::clearText);
            }
            int choice = random.nextInt(100);
            if (!text.isEmpty() && choice < 70) {
                append(text.charAt(0));
                text = text.substring(1);
                if (text.isEmpty()) {
                    both("errorPosition()", program::errorPosition, model::errorPosition);
                    both("load()", program::load, model::load);
                }
            } else if (choice < 40) {
                act(alike);
            } else if (choice < 70) {
                look();
            } else if (choice < 90) {
                wonder();
            } else {
                keep();
            }
        }
    }

    private void append(int c) {
        both("append(" + c + ")", () -> program.append(c), () -> model.append(c));
    }

    private int index() {
        return random.nextInt(12) == 0 ? EDGES[random.nextInt(EDGES.length)] : random.nextInt(size);
    }

    private int small(int above) {
        return random.nextInt(12) == 0 ? EDGES[random.nextInt(EDGES.length)] : random.nextInt(above);
    }

    private int owner() {
        return small(3) == 2 ? -1 : small(2);
    }

    private void act(boolean alike) {
        int a = index();
        int b = index();
        switch (random.nextInt(18)) {
            case 0, 1, 2 -> {
                int kind = small(alike ? 2 : 4);
                int weight = 1 + small(alike ? 2 : 9);
                if (about(0) < size || random.nextInt(20) == 0) {
                    jewel(kind, weight);
                }
            }
            case 3 -> both("exchange(" + a + ", " + b + ")", () -> program.exchange(a, b),
                    () -> model.exchange(a, b));
            case 4 -> {
                if (random.nextInt(3) == 0) {
                    both("breakAt(" + a + ")", () -> program.breakAt(a), () -> model.breakAt(a));
                }
            }
            case 5 -> {
                if (random.nextInt(4) == 0) {
                    both("turnRound()", program::turnRound, model::turnRound);
                }
            }
            case 6, 7, 8 -> {
                boolean on = random.nextInt(3) != 0;
                both("cut(" + a + ", " + on + ")", () -> program.cut(a, on), () -> model.cut(a, on));
            }
            case 9, 10 -> {
                int owner = owner();
                both("give(" + a + ", " + owner + ")", () -> program.give(a, owner),
                        () -> model.give(a, owner));
            }
            case 11, 12, 13 -> both("take(" + a + ")", () -> program.take(a), () -> model.take(a));
            case 14 -> {
                int sister = small(2);
                both("deal(" + sister + ")", () -> program.deal(sister), () -> model.deal(sister));
            }
            case 15 -> both("divide()", program::divide, model::divide);
            case 16 -> {
                int v = small(2);
                both("set(" + v + ")", () -> program.set(v), () -> model.set(v));
            }
            default -> {
                int times = random.nextInt(12) == 0 ? 16 : 1;
                for (int i = 0; i < times; i++) {
                    both("undo()", program::undo, model::undo);
                }
            }
        }
    }

    private void jewel(int kind, int weight) {
        both("jewel(" + kind + ", " + weight + ")", () -> program.jewel(kind, weight),
                () -> model.jewel(kind, weight));
    }

    private int about(int what) {
        return model.about(what);
    }

    private void look() {
        int a = index();
        switch (random.nextInt(6)) {
            case 0, 1 -> {
                int what = small(10);
                both("about(" + what + ")", () -> program.about(what), () -> model.about(what));
            }
            case 2 -> {
                int what = small(3);
                both("jewelOf(" + a + ", " + what + ")", () -> program.jewelOf(a, what),
                        () -> model.jewelOf(a, what));
            }
            case 3 -> {
                int what = small(4);
                both("placeOf(" + a + ", " + what + ")", () -> program.placeOf(a, what),
                        () -> model.placeOf(a, what));
            }
            case 4 -> {
                int what = small(4);
                both("runOf(" + a + ", " + what + ")", () -> program.runOf(a, what),
                        () -> model.runOf(a, what));
            }
            default -> {
                int sister = small(2);
                int kind = small(4);
                both("has(" + sister + ", " + kind + ")", () -> program.has(sister, kind),
                        () -> model.has(sister, kind));
            }
        }
    }

    private void wonder() {
        int choice = random.nextInt(10);
        // The model's searches are slow where there are many jewels.
        if (choice <= 3 && about(0) > 11 && random.nextInt(20) != 0) {
            choice = 4;
        }
        switch (choice) {
            case 0 -> {
                int way = small(2);
                both("fewest(" + way + ")", () -> program.fewest(way), () -> model.fewest(way));
            }
            case 1 -> {
                int k = small(7);
                both("divided(" + k + ")", () -> program.divided(k), () -> model.divided(k));
            }
            case 2 -> {
                int m = small(5);
                both("leastGap(" + m + ")", () -> program.leastGap(m), () -> model.leastGap(m));
            }
            case 3 -> {
                if (about(0) <= 11 || random.nextInt(6) == 0) {
                    both("bestBreak()", program::bestBreak, model::bestBreak);
                }
            }
            case 4, 5 -> both("bestRun()", program::bestRun, model::bestRun);
            case 6 -> {
                int r = index();
                int owner = owner();
                both("ifGiven(" + r + ", " + owner + ")", () -> program.ifGiven(r, owner),
                        () -> model.ifGiven(r, owner));
            }
            case 7, 8 -> script();
            default -> {
                long seed = random.nextInt(5) == 0 ? random.nextInt(5) - 2 : random.nextLong();
                int m = random.nextInt(8) == 0 ? EDGES[random.nextInt(EDGES.length)]
                        : 1 + random.nextInt(61);
                both("simulate(" + seed + ", " + m + ")", () -> program.simulate(seed, m),
                        () -> model.simulate(seed, m));
            }
        }
    }

    private void script() {
        int n = 1 + small(3);
        long script = 0;
        int groups = random.nextInt(10) == 0 ? n + 1 : n;
        for (int i = 0; i < groups; i++) {
            script = script * 100000 + group();
        }
        if (random.nextInt(20) == 0) {
            script = random.nextLong();
        }
        long all = script;
        both("runScript(" + n + ", " + all + ")", () -> program.runScript(n, all),
                () -> model.runScript(n, all));
    }

    private int group() {
        int d1 = 1 + random.nextInt(9);
        int pair = random.nextInt(8) == 0 ? random.nextInt(100) : random.nextInt(size);
        int fourth = random.nextInt(15) == 0 ? random.nextInt(10) : 0;
        int last = random.nextInt(8) == 0 ? random.nextInt(10) : random.nextInt(2);
        switch (d1) {
            case 3, 5 -> last = random.nextInt(10) == 0 ? 1 : 0;
            case 4 -> pair = random.nextInt(10) == 0 ? 10 : 0;
            case 6 -> {
                pair = random.nextInt(10) == 0 ? 1 : 0;
                fourth = random.nextInt(2);
                last = random.nextInt(10);
            }
            case 7 -> {
                pair = random.nextInt(10) == 0 ? 1 : 0;
                last = random.nextInt(8);
            }
            case 9 -> {
                pair = random.nextInt(3) * 10 + random.nextInt(5);
                last = random.nextInt(10);
            }
            default -> { }
        }
        return random.nextInt(30) == 0 ? random.nextInt(100000) : d1 * 10000 + pair * 100 + fourth * 10 + last;
    }

    private void keep() {
        int slot = small(2);
        if (random.nextInt(2) == 0) {
            both("save(" + slot + ")", () -> program.save(slot), () -> model.save(slot));
        } else if (random.nextInt(5) == 0) {
            both("restore(" + slot + ")", () -> program.restore(slot), () -> model.restore(slot));
        } else {
            int c = EDGES[random.nextInt(EDGES.length)];
            append(c);
            both("errorPosition()", program::errorPosition, model::errorPosition);
        }
    }

    private String two(int from) {
        int number = from + random.nextInt(16 - from);
        number = random.nextInt(4) == 0 ? number : Math.min(number, from + random.nextInt(size));
        return number < 10 ? "0" + number : "" + number;
    }

    private String necklace() {
        StringBuilder all = new StringBuilder("N");
        int jewels = random.nextInt(size + 1);
        for (int i = 0; i < jewels; i++) {
            all.append(command(0));
        }
        int others = random.nextInt(14);
        for (int i = 0; i < others; i++) {
            all.append(command(1 + random.nextInt(12)));
        }
        return all.toString();
    }

    private String command(int choice) {
        return switch (choice) {
            case 0, 1 -> "j" + "abcd".charAt(random.nextInt(4)) + (1 + random.nextInt(9));
            case 2 -> "b" + two(0);
            case 3, 4, 5 -> "c" + two(1);
            case 6 -> "m" + two(1);
            case 7 -> "g" + two(0) + random.nextInt(3);
            case 8, 9 -> "t" + two(0);
            case 10 -> "d" + random.nextInt(2);
            case 11 -> "s" + random.nextInt(2);
            default -> "r";
        };
    }

    private String spoilt(String right) {
        int at = random.nextInt(right.length());
        if (random.nextInt(4) == 0) {
            return right.substring(0, Math.max(1, at));
        }
        String signs = "Njabcdmgtsr0123456789 zn/:A\u0000\u00ff`e";
        char sign = signs.charAt(random.nextInt(signs.length()));
        return right.substring(0, at) + sign + right.substring(at + 1);
    }
}
