/** Each promise of the document by calls and answers worked out by hand. */
public final class PromisesTest {
    private static final int NONE = NecklaceSisters.NONE;
    private static final String INDEX = Checks.INDEX;
    private static final String ARGUMENT = Checks.ARGUMENT;
    private static final String STATE = Checks.STATE;
    private static final int LEAST = Integer.MIN_VALUE;
    private static final int MOST = Integer.MAX_VALUE;

    private PromisesTest() {
    }

    public static void main(String[] args) {
        newObject();
        append();
        clearText();
        errorPosition();
        load();
        about();
        jewelOf();
        placeOf();
        runOf();
        has();
        jewel();
        exchange();
        breakAt();
        turnRound();
        cut();
        give();
        take();
        deal();
        divide();
        set();
        undo();
        fewest();
        divided();
        leastGap();
        bestBreak();
        bestRun();
        ifGiven();
        scriptRefusals();
        scriptActions();
        scriptQuestions();
        simulate();
        save();
        restore();
        refusedCallsChangeNothing();
        Checks.end();
    }

    /** A ring of jewels told as in a text: a letter and a digit for each. */
    private static NecklaceSisters ring(String jewels) {
        NecklaceSisters x = new NecklaceSisters();
        for (int i = 0; i < jewels.length(); i += 2) {
            x.jewel(jewels.charAt(i) - 'a', jewels.charAt(i + 1) - '0');
        }
        return x;
    }

    private static NecklaceSisters cutRing(String jewels, int... places) {
        NecklaceSisters x = ring(jewels);
        for (int p : places) {
            x.cut(p, true);
        }
        return x;
    }

    private static NecklaceSisters texted(String text) {
        NecklaceSisters x = new NecklaceSisters();
        type(x, text);
        return x;
    }

    private static void type(NecklaceSisters x, String text) {
        x.clearText();
        for (int i = 0; i < text.length(); i++) {
            x.append(text.charAt(i));
        }
    }

    /** Everything that can be asked of the state, in one text. */
    private static String told(NecklaceSisters x) {
        StringBuilder all = new StringBuilder();
        for (int what = 0; what < 10; what++) {
            all.append(x.about(what)).append(' ');
        }
        for (int i = 0; i < x.about(0); i++) {
            all.append("| ").append(x.jewelOf(i, 0)).append(x.jewelOf(i, 1)).append(' ');
            all.append(x.placeOf(i, 0)).append(' ').append(x.placeOf(i, 1)).append(x.placeOf(i, 3));
        }
        return all.toString();
    }

    private static void newObject() {
        NecklaceSisters x = new NecklaceSisters();
        int[] due = {0, 0, 0, 0, 0, 1, 0, 0, 0, 0};
        for (int what = 0; what < 10; what++) {
            int number = what;
            Checks.due("new: about(" + what + ")", () -> x.about(number), due[what]);
        }
        Checks.due("new: clearText()", x::clearText, 0);
        Checks.dueThrow("new: jewelOf", () -> x.jewelOf(0, 0), INDEX);
        Checks.dueThrow("new: placeOf", () -> x.placeOf(0, 0), INDEX);
        Checks.dueThrow("new: runOf", () -> x.runOf(0, 0), INDEX);
        Checks.dueThrow("new: undo", x::undo, STATE);
        Checks.dueThrow("new: restore(0)", () -> x.restore(0), STATE);
        Checks.dueThrow("new: restore(1)", () -> x.restore(1), STATE);
        Checks.due("new: bestBreak", x::bestBreak, NONE);
        Checks.due("new: bestRun", x::bestRun, NONE);
        Checks.due("new: deal(1)", () -> x.deal(1), 0);
        Checks.due("new: turnRound()", x::turnRound, 0);
        Checks.due("new: divide()", x::divide, 0);
        Checks.due("NONE", () -> NONE, -1);
    }

    private static void append() {
        NecklaceSisters x = new NecklaceSisters();
        Checks.dueThrow("append(-1)", () -> x.append(-1), ARGUMENT);
        Checks.dueThrow("append(256)", () -> x.append(256), ARGUMENT);
        Checks.due("append(0)", () -> x.append(0), 1);
        Checks.due("append(255)", () -> x.append(255), 2);
        for (int i = 3; i <= 120; i++) {
            Checks.due("append " + i, () -> x.append('N'), i);
        }
        Checks.dueThrow("append 121", () -> x.append('N'), STATE);
        Checks.dueThrow("append 121 out of range", () -> x.append(256), ARGUMENT);
        Checks.due("clearText of 120", x::clearText, 120);
        Checks.due("append then", () -> x.append('N'), 1);
    }

    private static void clearText() {
        NecklaceSisters x = texted("Nja1");
        Checks.due("clearText()", x::clearText, 4);
        Checks.due("clearText() again", x::clearText, 0);
        Checks.due("errorPosition() then", x::errorPosition, 0);
    }

    private static void errorPosition() {
        String all = "Nja1jd9b00b15c01c15m01m15g000g151g092t00t15d0d1s0s1r";
        position(all, NONE);
        position("N", NONE);
        for (int i = 0; i < all.length(); i++) {
            boolean whole = i == 1 || i > 1 && "jbcmgtdsr".indexOf(all.charAt(i)) >= 0
                    && (i < 2 || all.charAt(i - 1) != 'j');
            position(all.substring(0, i), whole ? NONE : i);
        }
        String[] wrong = {"n", "x", "Nn", "N ", "Nje", "NjA", "Nja0", "Nja:", "Nb2", "Nb16", "Nb/",
            "Nc00", "Nc16", "Nc2", "Nm00", "Nm16", "Ng002x", "Ng003", "Ng16", "Nt16", "Nt2", "Nd2",
            "Ns2", "Nd/", "NrN", "Nja12", "Nc0a", "Nc010", "N\u0000", "N\u00ff", "Nja1 "};
        for (String text : wrong) {
            position(text, text.equals("Ng002x") ? 5 : text.length() - 1);
        }
        position("Nx" + all, 1);
    }

    private static void position(String text, int due) {
        NecklaceSisters x = texted(text);
        String before = told(x);
        Checks.due("errorPosition of " + text, x::errorPosition, due);
        Checks.same("state behind errorPosition", told(x), before);
        if (due == NONE) {
            Checks.same("load of " + text + " throws", "" + Checks.answerOf(x::load).startsWith("t"), "false");
        } else {
            Checks.dueThrow("load of " + text, x::load, STATE);
        }
        Checks.due("clearText of " + text, x::clearText, text.length());
    }

    private static void load() {
        NecklaceSisters x = ring("a1b2");
        x.set(1);
        x.save(0);
        x.save(1);
        type(x, "Nja3jb1ja2jc4b02c01c03t00t00t01t09c04m05g031d0g002s1");
        // Left out: the second t00, t09, c04, m05, and g031 (there are three runs).
        Checks.due("load()", x::load, 5);
        Checks.same("state behind load", told(x),
                "4 2 2 3 8 0 0 1 0 1 | 03 2 -10| 11 3 11| 02 0 10| 24 1 01");
        Checks.dueThrow("undo behind load", x::undo, STATE);
        Checks.dueThrow("restore(0) behind load", () -> x.restore(0), STATE);
        Checks.dueThrow("restore(1) behind load", () -> x.restore(1), STATE);
        Checks.due("load() again", x::load, 5);
        Checks.due("text behind load", x::clearText, 52);
        type(x, "Nja1jb2jc3jd4rb01g000m01");
        Checks.due("load with r", x::load, 0);
        Checks.same("state then", told(x),
                "4 1 0 1 4 0 0 0 0 0 | 34 1 00| 23 2 00| 12 3 00| 01 0 00");
        StringBuilder seventeen = new StringBuilder("N");
        for (int i = 0; i < 17; i++) {
            seventeen.append("jb2");
        }
        type(x, seventeen.toString());
        Checks.due("load of 17 jewels", x::load, 1);
        Checks.due("jewels then", () -> x.about(0), 16);
        x.save(0);
        String before = told(x);
        type(x, "Nj");
        x.set(1);
        Checks.dueThrow("load of Nj", x::load, STATE);
        Checks.due("undo behind load that throws", x::undo, 0);
        Checks.same("state then", told(x), before);
        Checks.due("restore behind load that throws", () -> x.restore(0), 16);
        Checks.due("text behind load that throws", x::clearText, 2);
        type(x, "N");
        Checks.due("load of N", x::load, 0);
        Checks.same("state of N", told(x), told(new NecklaceSisters()));
    }

    private static void about() {
        NecklaceSisters x = ring("a3b1a2c4");
        x.breakAt(2);
        x.cut(1, true);
        x.cut(3, true);
        x.take(1);
        x.take(1);
        x.take(1);
        x.give(0, 1);
        x.set(1);
        // The string: a2 | c4 a3 | b1; the sister 0 has the second run, the sister 1 the first.
        int[] due = {4, 2, 2, 3, 5, 0, 1, 1, 2, 1};
        for (int what = 0; what < 10; what++) {
            int number = what;
            Checks.due("about(" + what + ")", () -> x.about(number), due[what]);
        }
        for (int what : new int[] {-1, 10, LEAST, MOST}) {
            Checks.dueThrow("about(" + what + ")", () -> x.about(what), ARGUMENT);
        }
        NecklaceSisters fair = cutRing("a1a1", 1);
        Checks.due("gap 0 of nobody's runs", () -> fair.about(4), 0);
        Checks.due("fair with nobody's runs", () -> fair.about(5), 0);
        fair.deal(1);
        Checks.due("fair", () -> fair.about(5), 1);
    }

    private static void jewelOf() {
        NecklaceSisters x = ring("a3b1d9");
        x.breakAt(1);
        Checks.due("jewelOf(2, 0)", () -> x.jewelOf(2, 0), 3);
        Checks.due("jewelOf(2, 1)", () -> x.jewelOf(2, 1), 9);
        Checks.due("jewelOf(2, 2)", () -> x.jewelOf(2, 2), 1);
        Checks.due("jewelOf(0, 2)", () -> x.jewelOf(0, 2), 2);
        Checks.due("jewelOf(1, 2)", () -> x.jewelOf(1, 2), 0);
        Checks.dueThrow("jewelOf(3, 0)", () -> x.jewelOf(3, 0), INDEX);
        Checks.dueThrow("jewelOf(-1, 9)", () -> x.jewelOf(-1, 9), INDEX);
        Checks.dueThrow("jewelOf(0, 3)", () -> x.jewelOf(0, 3), ARGUMENT);
        Checks.dueThrow("jewelOf(0, -1)", () -> x.jewelOf(0, -1), ARGUMENT);
        Checks.dueThrow("jewelOf(MOST, 0)", () -> x.jewelOf(MOST, 0), INDEX);
        Checks.dueThrow("jewelOf(LEAST, 0)", () -> x.jewelOf(LEAST, 0), INDEX);
    }

    private static void placeOf() {
        NecklaceSisters x = ring("a3b1d9a1");
        x.breakAt(3);
        x.cut(2, true);
        x.give(1, 1);
        Checks.due("placeOf(0, 0)", () -> x.placeOf(0, 0), 3);
        Checks.due("placeOf(3, 0)", () -> x.placeOf(3, 0), 2);
        Checks.due("placeOf(1, 1)", () -> x.placeOf(1, 1), NONE);
        Checks.due("placeOf(2, 1)", () -> x.placeOf(2, 1), 1);
        Checks.due("placeOf(1, 2)", () -> x.placeOf(1, 2), 0);
        Checks.due("placeOf(3, 2)", () -> x.placeOf(3, 2), 1);
        Checks.due("placeOf(0, 3)", () -> x.placeOf(0, 3), 0);
        Checks.due("placeOf(2, 3)", () -> x.placeOf(2, 3), 1);
        Checks.due("placeOf(3, 3)", () -> x.placeOf(3, 3), 0);
        Checks.dueThrow("placeOf(4, 0)", () -> x.placeOf(4, 0), INDEX);
        Checks.dueThrow("placeOf(-1, 4)", () -> x.placeOf(-1, 4), INDEX);
        Checks.dueThrow("placeOf(0, 4)", () -> x.placeOf(0, 4), ARGUMENT);
        Checks.dueThrow("placeOf(0, -1)", () -> x.placeOf(0, -1), ARGUMENT);
    }

    private static void runOf() {
        NecklaceSisters x = cutRing("a3b1d9a1", 1, 3);
        x.give(1, 0);
        Checks.due("runOf(1, 0)", () -> x.runOf(1, 0), 1);
        Checks.due("runOf(1, 1)", () -> x.runOf(1, 1), 2);
        Checks.due("runOf(1, 2)", () -> x.runOf(1, 2), 0);
        Checks.due("runOf(1, 3)", () -> x.runOf(1, 3), 2);
        Checks.due("runOf(2, 0)", () -> x.runOf(2, 0), 3);
        Checks.due("runOf(2, 1)", () -> x.runOf(2, 1), 1);
        Checks.due("runOf(2, 2)", () -> x.runOf(2, 2), NONE);
        x.set(1);
        Checks.due("runOf(1, 3) by weight", () -> x.runOf(1, 3), 10);
        Checks.dueThrow("runOf(3, 0)", () -> x.runOf(3, 0), INDEX);
        Checks.dueThrow("runOf(-1, 4)", () -> x.runOf(-1, 4), INDEX);
        Checks.dueThrow("runOf(2, 4)", () -> x.runOf(2, 4), ARGUMENT);
        Checks.dueThrow("runOf(2, -1)", () -> x.runOf(2, -1), ARGUMENT);
    }

    private static void has() {
        NecklaceSisters x = cutRing("a3b1a9a1", 2);
        x.give(0, 1);
        x.give(1, 0);
        Checks.due("has(0, 0)", () -> x.has(0, 0), 2);
        Checks.due("has(1, 0)", () -> x.has(1, 0), 1);
        Checks.due("has(1, 1)", () -> x.has(1, 1), 1);
        Checks.due("has(0, 3)", () -> x.has(0, 3), 0);
        x.set(1);
        Checks.due("has(0, 0) by weight", () -> x.has(0, 0), 10);
        x.give(1, NONE);
        Checks.due("has(0, 0) then", () -> x.has(0, 0), 0);
        for (int wrong : new int[] {-1, 2, MOST}) {
            Checks.dueThrow("has(" + wrong + ", 0)", () -> x.has(wrong, 0), INDEX);
        }
        for (int wrong : new int[] {-1, 4, LEAST}) {
            Checks.dueThrow("has(0, " + wrong + ")", () -> x.has(0, wrong), INDEX);
        }
    }

    private static void jewel() {
        NecklaceSisters x = ring("a3b1");
        x.breakAt(1);
        x.cut(1, true);
        x.deal(0);
        x.take(0);
        x.set(1);
        Checks.due("jewel(3, 9)", () -> x.jewel(3, 9), 2);
        Checks.same("state behind jewel", told(x), "3 1 0 1 0 0 0 3 1 1 | 03 1 -10| 11 2 -10| 39 0 -10");
        Checks.dueThrow("jewel(4, 0)", () -> x.jewel(4, 0), INDEX);
        Checks.dueThrow("jewel(-1, 1)", () -> x.jewel(-1, 1), INDEX);
        Checks.dueThrow("jewel(0, 0)", () -> x.jewel(0, 0), ARGUMENT);
        Checks.dueThrow("jewel(0, 10)", () -> x.jewel(0, 10), ARGUMENT);
        for (int i = 3; i < 16; i++) {
            Checks.due("jewel " + i, () -> x.jewel(0, 1), i);
        }
        Checks.dueThrow("jewel 16", () -> x.jewel(0, 1), STATE);
        Checks.dueThrow("jewel 16 of weight 0", () -> x.jewel(0, 0), ARGUMENT);
        Checks.dueThrow("jewel 16 of kind 4", () -> x.jewel(4, 0), INDEX);
    }

    private static void exchange() {
        NecklaceSisters x = cutRing("a3b1a2", 1, 2);
        x.give(0, 0);
        x.give(1, 1);
        Checks.due("exchange(0, 1)", () -> x.exchange(0, 1), 2);
        Checks.same("state behind exchange", told(x), "3 0 2 3 2 0 0 1 0 0 | 11 0 00| 03 1 11| 02 2 -11");
        Checks.due("exchange(0, 2)", () -> x.exchange(2, 0), 0);
        Checks.due("exchange(1, 1)", () -> x.exchange(1, 1), 0);
        Checks.due("exchange is an action", x::undo, 9);
        x.set(1);
        Checks.due("exchange(1, 2) by weight", () -> x.exchange(1, 2), 3);
        Checks.dueThrow("exchange(3, 0)", () -> x.exchange(3, 0), INDEX);
        Checks.dueThrow("exchange(0, 3)", () -> x.exchange(0, 3), INDEX);
        Checks.dueThrow("exchange(-1, 0)", () -> x.exchange(-1, 0), INDEX);
        Checks.dueThrow("exchange(0, -1)", () -> x.exchange(0, -1), INDEX);
    }

    private static void breakAt() {
        NecklaceSisters x = cutRing("a3b1a2", 1, 2);
        x.deal(0);
        Checks.due("breakAt(2)", () -> x.breakAt(2), 0);
        Checks.same("state behind breakAt", told(x), "3 2 0 1 0 0 0 3 0 0 | 03 2 -10| 11 0 -10| 02 1 -10");
        x.cut(1, true);
        x.deal(1);
        Checks.due("breakAt(2) again", () -> x.breakAt(2), 2);
        Checks.same("state then", told(x), "3 2 0 1 0 0 0 3 0 0 | 03 2 -10| 11 0 -10| 02 1 -10");
        Checks.dueThrow("breakAt(3)", () -> x.breakAt(3), INDEX);
        Checks.dueThrow("breakAt(-1)", () -> x.breakAt(-1), INDEX);
        Checks.dueThrow("breakAt(0) without jewels", () -> new NecklaceSisters().breakAt(0), INDEX);
    }

    private static void turnRound() {
        NecklaceSisters x = ring("a3b1a2d4");
        x.breakAt(1);
        x.cut(2, true);
        x.deal(0);
        Checks.due("turnRound()", x::turnRound, 4);
        Checks.same("state behind turnRound", told(x),
                "4 1 0 1 0 0 0 4 0 0 | 34 1 -10| 02 2 -10| 11 3 -10| 03 0 -10");
        x.jewel(2, 5);
        Checks.due("turnRound() of five", x::turnRound, 5);
        Checks.same("state then", told(x), "5 1 0 1 0 0 0 5 0 0 "
                + "| 25 1 -10| 03 2 -10| 11 3 -10| 02 4 -10| 34 0 -10");
        Checks.due("turnRound without jewels", () -> new NecklaceSisters().turnRound(), 0);
    }

    private static void cut() {
        NecklaceSisters x = ring("a1a1a1a1a1");
        x.give(0, 1);
        Checks.due("cut(2, true)", () -> x.cut(2, true), 2);
        Checks.due("the part ahead", () -> x.runOf(0, 2), 1);
        Checks.due("the part behind", () -> x.runOf(1, 2), 1);
        Checks.due("cut(2, true) again", () -> x.cut(2, true), 2);
        Checks.due("cut(4, true)", () -> x.cut(4, true), 3);
        x.give(1, 0);
        x.give(2, NONE);
        Checks.due("cut(3, false) where none is", () -> x.cut(3, false), 3);
        Checks.due("cut(2, false)", () -> x.cut(2, false), 2);
        Checks.same("state behind cut", told(x),
                "5 0 1 2 4 0 0 1 0 0 | 01 0 10| 01 1 10| 01 2 10| 01 3 10| 01 4 -11");
        x.give(0, NONE);
        x.give(1, 0);
        Checks.due("cut(4, false)", () -> x.cut(4, false), 1);
        Checks.due("nobody's then", () -> x.about(7), 5);
        for (int p : new int[] {0, -1, 5, LEAST, MOST}) {
            Checks.dueThrow("cut(" + p + ", true)", () -> x.cut(p, true), INDEX);
            Checks.dueThrow("cut(" + p + ", false)", () -> x.cut(p, false), INDEX);
        }
        Checks.dueThrow("cut(1) of one jewel", () -> ring("a1").cut(1, true), INDEX);
        NecklaceSisters all = ring("a1a1a1a1a1a1a1a1a1a1a1a1a1a1a1a1");
        for (int p = 1; p < 16; p++) {
            int place = p;
            Checks.due("cut(" + p + ")", () -> all.cut(place, true), p + 1);
        }
        Checks.due("runOf(15, 0)", () -> all.runOf(15, 0), 15);
    }

    private static void give() {
        NecklaceSisters x = cutRing("a3b1a2d4", 1, 3);
        Checks.due("give(1, 1)", () -> x.give(1, 1), 2);
        Checks.due("give(0, 0)", () -> x.give(0, 0), 1);
        Checks.due("give(1, 0)", () -> x.give(1, 0), 3);
        Checks.due("give(1, NONE)", () -> x.give(1, NONE), 1);
        Checks.due("the sister on the move", () -> x.about(6), 0);
        Checks.dueThrow("give(3, 2)", () -> x.give(3, 2), INDEX);
        Checks.dueThrow("give(-1, 0)", () -> x.give(-1, 0), INDEX);
        Checks.dueThrow("give(0, 2)", () -> x.give(0, 2), ARGUMENT);
        Checks.dueThrow("give(0, -2)", () -> x.give(0, -2), ARGUMENT);
        Checks.dueThrow("give(0, 0) without jewels", () -> new NecklaceSisters().give(0, 0), INDEX);
    }

    private static void take() {
        NecklaceSisters x = cutRing("a3b1a2d4", 1, 3);
        Checks.due("take(1)", () -> x.take(1), 0);
        Checks.due("on the move then", () -> x.about(6), 1);
        Checks.due("take(1) by the other one", () -> x.take(1), 1);
        Checks.due("on the move still", () -> x.about(6), 1);
        Checks.due("refused", () -> x.about(8), 1);
        Checks.due("take(0)", () -> x.take(0), 0);
        Checks.due("take(1) that is hers", () -> x.take(1), 2);
        Checks.due("refused then", () -> x.about(8), 2);
        Checks.due("whose run 1 is", () -> x.runOf(1, 2), 0);
        Checks.due("whose run 0 is", () -> x.runOf(0, 2), 1);
        Checks.dueThrow("take(3)", () -> x.take(3), INDEX);
        Checks.dueThrow("take(-1)", () -> x.take(-1), INDEX);
        Checks.due("refused still", () -> x.about(8), 2);
        Checks.due("undo of what is refused", x::undo, 9);
        Checks.due("refused behind undo", () -> x.about(8), 1);
    }

    private static void deal() {
        NecklaceSisters x = cutRing("a3b1a2d4", 1, 3);
        x.give(2, 1);
        Checks.due("deal(0)", () -> x.deal(0), 2);
        Checks.same("state behind deal(0)", told(x),
                "4 0 2 3 2 0 0 0 0 0 | 03 0 00| 11 1 11| 02 2 10| 34 3 01");
        Checks.due("deal(1)", () -> x.deal(1), 2);
        Checks.due("the run 0", () -> x.runOf(0, 2), 1);
        Checks.due("the run 1", () -> x.runOf(1, 2), 0);
        Checks.due("the run 2", () -> x.runOf(2, 2), 1);
        x.set(1);
        Checks.due("deal(1) by weight", () -> x.deal(1), 6);
        Checks.dueThrow("deal(2)", () -> x.deal(2), INDEX);
        Checks.dueThrow("deal(-1)", () -> x.deal(-1), INDEX);
    }

    private static void divide() {
        NecklaceSisters x = cutRing("a1b1b1a1a1a1", 1, 4);
        x.take(0);
        Checks.due("divide()", x::divide, 2);
        Checks.same("state behind divide", told(x), "6 0 2 3 0 1 1 0 0 0 "
                + "| 01 0 00| 11 1 00| 11 2 11| 01 3 10| 01 4 10| 01 5 01");
        Checks.due("divide is an action", x::undo, 9);
        Checks.due("the runs behind undo", () -> x.about(3), 3);
        NecklaceSisters odd = ring("a1b1");
        odd.cut(1, true);
        String before = told(odd);
        Checks.dueThrow("divide() that cannot be", odd::divide, STATE);
        Checks.same("state then", told(odd), before);
        Checks.due("nothing remembered by it", odd::undo, 2);
    }

    private static void set() {
        NecklaceSisters x = ring("a3");
        Checks.due("set(1)", () -> x.set(1), 0);
        Checks.due("set(1) again", () -> x.set(1), 1);
        Checks.due("set(0)", () -> x.set(0), 1);
        Checks.dueThrow("set(2)", () -> x.set(2), ARGUMENT);
        Checks.dueThrow("set(-1)", () -> x.set(-1), ARGUMENT);
        Checks.due("undo of set", x::undo, 3);
        Checks.due("setting then", () -> x.about(9), 1);
    }

    private static void undo() {
        NecklaceSisters x = new NecklaceSisters();
        String[] states = new String[17];
        for (int i = 0; i < 16; i++) {
            states[i] = told(x);
            x.jewel(i % 4, 1 + i % 9);
        }
        for (int left = 13; left >= 0; left--) {
            Checks.due("undo to " + left, x::undo, left);
            Checks.same("state then", told(x), states[left + 2]);
        }
        Checks.dueThrow("undo of what is forgotten", x::undo, STATE);
        x.jewel(0, 1);
        Checks.due("undo again", x::undo, 0);
        NecklaceSisters y = ring("a1b2");
        Checks.dueThrow("an action that throws", () -> y.cut(2, true), INDEX);
        Checks.due("undo behind it", y::undo, 1);
        Checks.due("jewels then", () -> y.about(0), 1);
        NecklaceSisters z = cutRing("a1b2", 1);
        Checks.due("take", () -> z.take(1), 0);
        z.simulate(5, 60);
        z.runScript(1, 40000);
        z.append('N');
        z.save(0);
        Checks.due("undo of take", z::undo, 3);
        Checks.same("state behind undo of take", told(z), "2 0 1 2 0 0 0 2 0 0 | 01 0 -10| 12 1 -11");
        Checks.due("undo of cut", z::undo, 2);
        Checks.due("runs then", () -> z.about(3), 1);
        Checks.due("text behind undo", z::clearText, 1);
    }

    private static void fewest() {
        bothFewest(new NecklaceSisters(), 0);
        bothFewest(ring("a1"), NONE);
        bothFewest(ring("a1a1"), 1);
        bothFewest(ring("a1b1"), NONE);
        bothFewest(ring("a1b1a1b1"), 1);
        bothFewest(ring("a1a1b1b1"), 2);
        bothFewest(cutRing("a1a1b1b1c1c1", 1, 2), 3);
        bothFewest(ring("a1a1b1b1c1c1d1d1"), 4);
        NecklaceSisters weighed = ring("a1a2a1");
        bothFewest(weighed, NONE);
        weighed.set(1);
        bothFewest(weighed, 2);
        NecklaceSisters x = ring("a1a1");
        for (int way : new int[] {-1, 2, LEAST, MOST}) {
            Checks.dueThrow("fewest(" + way + ")", () -> x.fewest(way), ARGUMENT);
        }
    }

    private static void bothFewest(NecklaceSisters x, int due) {
        String before = told(x);
        Checks.due("fewest(0)", () -> x.fewest(0), due);
        Checks.due("fewest(1)", () -> x.fewest(1), due);
        Checks.same("state behind fewest", told(x), before);
    }

    private static void divided() {
        NecklaceSisters x = ring("a1a1b1b1");
        Checks.due("divided(0)", () -> x.divided(0), 1);
        Checks.due("divided(1)", () -> x.divided(1), 3);
        Checks.due("divided(2)", () -> x.divided(2), NONE);
        Checks.due("divided(MOST)", () -> x.divided(MOST), NONE);
        // Cuts ahead of 1 and 3, and of 2 and 5 too, would do: the lower ones are told.
        NecklaceSisters y = ring("a2a3a3a1a2a1");
        y.set(1);
        Checks.due("divided(0) of several", () -> y.divided(0), 1);
        Checks.due("divided(1) of several", () -> y.divided(1), 3);
        NecklaceSisters none = ring("a1b1");
        Checks.due("divided(0) of none", () -> none.divided(0), NONE);
        Checks.due("divided(0) without jewels", () -> new NecklaceSisters().divided(0), NONE);
        Checks.dueThrow("divided(-1)", () -> x.divided(-1), ARGUMENT);
        Checks.dueThrow("divided(LEAST)", () -> none.divided(LEAST), ARGUMENT);
    }

    private static void leastGap() {
        NecklaceSisters x = ring("a1a1b1b1c1c1d1d1");
        int[] due = {8, 6, 4, 2, 0};
        for (int m = 0; m <= 4; m++) {
            int cuts = m;
            Checks.due("leastGap(" + m + ")", () -> x.leastGap(cuts), due[m]);
        }
        NecklaceSisters y = ring("a5a1b1");
        y.set(1);
        Checks.due("leastGap(0) by weight", () -> y.leastGap(0), 7);
        Checks.due("leastGap(4) by weight", () -> y.leastGap(4), 5);
        Checks.due("leastGap(4) without jewels", () -> new NecklaceSisters().leastGap(4), 0);
        Checks.dueThrow("leastGap(5)", () -> x.leastGap(5), ARGUMENT);
        Checks.dueThrow("leastGap(-1)", () -> x.leastGap(-1), ARGUMENT);
    }

    private static void bestBreak() {
        NecklaceSisters x = ring("a1a1b1b1");
        x.breakAt(3);
        Checks.due("bestBreak()", x::bestBreak, 1);
        Checks.due("the break behind it", () -> x.about(1), 3);
        Checks.due("bestBreak() of alike ones", () -> ring("a1a1").bestBreak(), 0);
        Checks.due("bestBreak() of none", () -> ring("a1b1").bestBreak(), NONE);
        NecklaceSisters y = ring("a1a2a1");
        y.set(1);
        Checks.due("bestBreak() by weight", y::bestBreak, 1);
    }

    private static void bestRun() {
        NecklaceSisters x = cutRing("a1a1a1b1a1", 2, 3, 4);
        Checks.due("bestRun()", x::bestRun, 1);
        Checks.due("take(0)", () -> x.take(0), 0);
        Checks.due("bestRun() of the other one", x::bestRun, 1);
        x.give(1, 0);
        Checks.due("bestRun() then", x::bestRun, 3);
        Checks.due("nobody's places behind it", () -> x.about(7), 2);
        x.deal(0);
        Checks.due("bestRun() of none", x::bestRun, NONE);
    }

    private static void ifGiven() {
        NecklaceSisters x = cutRing("a3b1a2d4", 1, 3);
        x.give(0, 0);
        String before = told(x);
        Checks.due("ifGiven(1, 1)", () -> x.ifGiven(1, 1), 1);
        Checks.due("ifGiven(1, 0)", () -> x.ifGiven(1, 0), 3);
        Checks.due("ifGiven(0, NONE)", () -> x.ifGiven(0, NONE), 0);
        Checks.due("ifGiven(0, 0)", () -> x.ifGiven(0, 0), 1);
        Checks.same("state behind ifGiven", told(x), before);
        Checks.dueThrow("ifGiven(3, 2)", () -> x.ifGiven(3, 2), INDEX);
        Checks.dueThrow("ifGiven(-1, 0)", () -> x.ifGiven(-1, 0), INDEX);
        Checks.dueThrow("ifGiven(0, 2)", () -> x.ifGiven(0, 2), ARGUMENT);
        Checks.dueThrow("ifGiven(0, -2)", () -> x.ifGiven(0, -2), ARGUMENT);
        Checks.due("ifGiven is no action", x::undo, 6);
    }

    private static void script(NecklaceSisters x, int n, long script, int due) {
        String before = told(x);
        Checks.due("runScript(" + n + ", " + script + ")", () -> x.runScript(n, script), due);
        Checks.same("state behind runScript", told(x), before);
    }

    private static void scriptRefusals() {
        NecklaceSisters x = ring("a1a1");
        for (int n : new int[] {0, -1, 4, LEAST, MOST}) {
            Checks.dueThrow("runScript(" + n + ", 0)", () -> x.runScript(n, 0), ARGUMENT);
        }
        long[] tooLong = {100000L, 10000000000L, 1000000000000000L};
        for (int n = 1; n <= 3; n++) {
            int commands = n;
            Checks.dueThrow("too long " + n, () -> x.runScript(commands, tooLong[commands - 1]), ARGUMENT);
            Checks.dueThrow("negative " + n, () -> x.runScript(commands, -1), ARGUMENT);
            script(x, n, tooLong[n - 1] - 1, 0);
            script(x, n, 0, 0);
        }
        Checks.dueThrow("Long.MAX_VALUE", () -> x.runScript(3, Long.MAX_VALUE), ARGUMENT);
        Checks.dueThrow("Long.MIN_VALUE", () -> x.runScript(3, Long.MIN_VALUE), ARGUMENT);
        // Fewer digits: the first command is 00000, and fails.
        script(x, 2, 40000, 0);
        script(x, 3, 4000040000L, 0);
        script(x, 3, 400004000040000L, NONE);
        script(x, 3, 400004000200000L, 1);
        script(x, 3, 400004000100000L, 2);
    }

    private static void scriptActions() {
        NecklaceSisters x = ring("a1b2a3c4");
        long[] right = {10101, 10300, 20000, 20002, 30000, 40001, 50300};
        for (long group : right) {
            script(x, 1, group, NONE);
        }
        long[] wrong = {10001, 10401, 10102, 10111, 11601, 20100, 20003, 20010, 30100, 30001, 30010,
            40002, 40010, 40100, 41000, 50400, 50001, 50010, 99999, 1, 12345};
        for (long group : wrong) {
            script(x, 1, group, 0);
        }
        script(x, 2, 3000030000L, 1);
        script(x, 3, 102013000030100L, NONE);
        script(x, 3, 102013000030200L, 2);
        script(x, 3, 400001020180200L, NONE);
        script(x, 3, 400015030080000L, 2);
        script(x, 3, 102010401020100L, 1);
    }

    private static void scriptQuestions() {
        NecklaceSisters x = cutRing("a1b2a3b4", 2);
        x.give(0, 1);
        long[] right = {60002, 60099, 70001, 70009, 80001, 80101, 80202, 80302, 91001, 91101, 90000,
            91300, 90300};
        for (long group : right) {
            script(x, 1, group, NONE);
        }
        long[] wrong = {60001, 60102, 61002, 70000, 70011, 71001, 80000, 80002, 80203, 80211, 80402,
            81600, 91002, 90001, 92000, 90400, 91399};
        for (long group : wrong) {
            script(x, 1, group, 0);
        }
        script(x, 2, 2010060000L, NONE);
        x.set(1);
        script(x, 1, 91102, NONE);
        script(x, 1, 91103, 0);
        script(ring("a1b1"), 1, 70009, 0);
        script(new NecklaceSisters(), 1, 70000, NONE);
        script(new NecklaceSisters(), 1, 80002, 0);
    }

    private static void simulate() {
        NecklaceSisters x = ring("a1b2a3b4");
        String before = told(x);
        // The seed whose next number is 0: r is 0, so that a jewel a1 comes.
        long toZero = seedFor(0);
        Checks.due("a jewel comes", () -> x.simulate(toZero, 1), 50100);
        Checks.due("a cut", () -> x.simulate(seedFor(4 + 16 * 16), 1), 40200);
        Checks.due("no cut", () -> x.simulate(seedFor(4), 1), 40100);
        Checks.due("a cut that throws", () -> x.simulate(seedFor(4 + 16 * (14 + 15 * 2)), 1), 40100);
        Checks.due("given to the sister 0", () -> x.simulate(seedFor(8 + 16 * 16), 1), 40104);
        Checks.due("given to nobody", () -> x.simulate(seedFor(9), 1), 40100);
        Checks.due("taken", () -> x.simulate(seedFor(12), 1), 40104);
        Checks.due("dealt", () -> x.simulate(seedFor(13 + 16), 1), 40104);
        x.deal(0);
        x.set(1);
        Checks.due("broken", () -> x.simulate(seedFor(14), 1), 40100);
        Checks.due("exchanged", () -> x.simulate(seedFor(14 + 16 * 16), 1), 40110);
        Checks.due("set to 0", () -> x.simulate(seedFor(15), 1), 40104);
        Checks.due("set to 1", () -> x.simulate(seedFor(15 + 16), 1), 40110);
        Checks.due("turned round", () -> x.simulate(seedFor(15 + 32), 1), 40100);
        NecklaceSisters heavy = ring("a9a9a9a9a9a9a9a9a9a9a9a9a9a9a9a9");
        heavy.set(1);
        heavy.deal(0);
        Checks.due("the gap above 99", () -> heavy.simulate(toZero, 1), 160199);
        for (int m : new int[] {0, -1, 61, LEAST, MOST}) {
            Checks.dueThrow("simulate(0, " + m + ")", () -> x.simulate(0, m), ARGUMENT);
        }
        Checks.due("the state is as before", x::undo, 5);
        x.undo();
        Checks.same("state behind simulate", told(x), before);
        Checks.same("60 turns", Checks.answerOf(() -> x.simulate(-7, 60)),
                Checks.answerOf(() -> x.simulate(-7, 60)));
    }

    /** A seed whose first turn has the given r. */
    private static long seedFor(int r) {
        long a = 6364136223846793005L;
        long inverse = a;
        for (int i = 0; i < 6; i++) {
            inverse *= 2 - a * inverse;
        }
        return (((long) r << 33) - 1442695040888963407L) * inverse;
    }

    private static void save() {
        NecklaceSisters x = ring("a1b2");
        Checks.due("save(0)", () -> x.save(0), 2);
        x.jewel(2, 3);
        Checks.due("save(1)", () -> x.save(1), 3);
        Checks.due("save is no action", x::undo, 2);
        Checks.due("the slot 1 behind undo", () -> x.restore(1), 3);
        Checks.due("the slot 0", () -> x.restore(0), 2);
        x.jewel(3, 4);
        x.jewel(3, 4);
        Checks.due("save(0) again", () -> x.save(0), 4);
        x.turnRound();
        Checks.due("the slot 0 then", () -> x.restore(0), 4);
        Checks.due("kind of the jewel 3", () -> x.jewelOf(3, 0), 3);
        for (int slot : new int[] {-1, 2, LEAST, MOST}) {
            Checks.dueThrow("save(" + slot + ")", () -> x.save(slot), INDEX);
        }
        Checks.due("save(1) without jewels", () -> new NecklaceSisters().save(1), 0);
    }

    private static void restore() {
        NecklaceSisters x = ring("a1b2a3");
        x.breakAt(1);
        x.cut(2, true);
        x.take(1);
        x.take(1);
        x.set(1);
        String saved = told(x);
        x.save(1);
        Checks.dueThrow("restore(0) of nothing", () -> x.restore(0), STATE);
        x.jewel(3, 3);
        x.deal(1);
        Checks.due("restore(1)", () -> x.restore(1), 3);
        Checks.same("state behind restore", told(x), saved);
        Checks.dueThrow("undo behind restore", x::undo, STATE);
        x.turnRound();
        Checks.due("restore(1) again", () -> x.restore(1), 3);
        Checks.same("state behind restore again", told(x), saved);
        x.turnRound();
        Checks.dueThrow("restore(0) of nothing still", () -> x.restore(0), STATE);
        Checks.due("undo behind restore that throws", x::undo, 0);
        for (int slot : new int[] {-1, 2, LEAST, MOST}) {
            Checks.dueThrow("restore(" + slot + ")", () -> x.restore(slot), INDEX);
        }
    }

    private static void refusedCallsChangeNothing() {
        NecklaceSisters x = cutRing("a1b2a3b3", 1, 3);
        x.take(0);
        x.take(0);
        String before = told(x);
        Checks.Call[] calls = {
            () -> x.jewel(4, 1), () -> x.jewel(0, 10), () -> x.exchange(0, 4), () -> x.exchange(4, 0),
            () -> x.breakAt(4), () -> x.cut(0, true), () -> x.cut(4, false), () -> x.give(3, 0),
            () -> x.give(0, 2), () -> x.take(3), () -> x.deal(2), () -> x.set(2), () -> x.ifGiven(0, 3),
            () -> x.runScript(4, 0), () -> x.simulate(0, 61), () -> x.save(2), () -> x.restore(1)};
        for (int i = 0; i < calls.length; i++) {
            Checks.same("refused call " + i, "" + Checks.answerOf(calls[i]).startsWith("throws"), "true");
            Checks.same("state behind refused call " + i, told(x), before);
        }
        Checks.due("remembered still", x::undo, 7);
    }
}
