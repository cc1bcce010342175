import java.util.ArrayDeque;
import java.util.ArrayList;
import java.util.Arrays;
import java.util.Collections;
import java.util.Deque;
import java.util.List;
import java.util.regex.Matcher;
import java.util.regex.Pattern;

/**
 * The document once more, told in another way than the program tells it: the string is a list of
 * runs, every search tries all there is, and what cannot be done throws.
 */
final class Model {
    private static final Pattern NECKLACE = Pattern.compile(
            "N(j[a-d][1-9]|[bt](0[0-9]|1[0-5])|[cm](0[1-9]|1[0-5])|g(0[0-9]|1[0-5])[0-2]|[ds][01]|r)*",
            Pattern.DOTALL);

    private String text = "";
    private State now = new State();
    private final Deque<State> past = new ArrayDeque<>();
    private final State[] slots = new State[2];

    /** A run: the length and the owner. */
    private static final class Run {
        int length;
        int owner;

        Run(int length, int owner) {
            this.length = length;
            this.owner = owner;
        }
    }

    private static final class State {
        List<int[]> ring = new ArrayList<>();
        int broken;
        List<Run> runs = new ArrayList<>();
        int mover;
        int refused;
        int setting;

        State copy() {
            State other = new State();
            other.ring.addAll(ring);
            other.broken = broken;
            for (Run run : runs) {
                other.runs.add(new Run(run.length, run.owner));
            }
            other.mover = mover;
            other.refused = refused;
            other.setting = setting;
            return other;
        }

        List<Integer> string(int ahead) {
            List<Integer> order = new ArrayList<>();
            for (int j = 0; j < ring.size(); j++) {
                order.add(j);
            }
            Collections.rotate(order, -ahead);
            return order;
        }

        int value(int j) {
            return setting == 0 ? 1 : ring.get(j)[1];
        }

        void whole() {
            runs.clear();
            if (!ring.isEmpty()) {
                runs.add(new Run(ring.size(), -1));
            }
        }

        int start(int r) {
            int start = 0;
            for (int i = 0; i < r; i++) {
                start += runs.get(i).length;
            }
            return start;
        }

        int runAt(int p) {
            int r = 0;
            while (start(r + 1) <= p) {
                r++;
            }
            return r;
        }

        int has(int sister, int kind) {
            int sum = 0;
            List<Integer> order = string(broken);
            for (int p = 0; p < order.size(); p++) {
                int j = order.get(p);
                if (runs.get(runAt(p)).owner == sister && ring.get(j)[0] == kind) {
                    sum += value(j);
                }
            }
            return sum;
        }

        int gap() {
            int gap = 0;
            for (int kind = 0; kind < 4; kind++) {
                gap += Math.abs(has(0, kind) - has(1, kind));
            }
            return gap;
        }

        int nobodys() {
            int count = 0;
            for (Run run : runs) {
                count += run.owner == -1 ? run.length : 0;
            }
            return count;
        }

        int gapIfCut(int ahead, int cuts) {
            int[] differences = new int[4];
            int owner = 1;
            List<Integer> order = string(ahead);
            for (int p = 0; p < order.size(); p++) {
                if ((cuts >> p & 1) != 0) {
                    owner = -owner;
                }
                int j = order.get(p);
                differences[ring.get(j)[0]] += owner * value(j);
            }
            return Arrays.stream(differences).map(Math::abs).sum();
        }

        /** The places of the best cuts, or null. */
        List<Integer> best(int ahead) {
            List<Integer> best = null;
            for (int cuts = 0; cuts < 1 << Math.max(0, ring.size()); cuts += 2) {
                if (Integer.bitCount(cuts) <= 6 && gapIfCut(ahead, cuts) == 0) {
                    List<Integer> places = placesOf(cuts);
                    if (best == null || isBetter(places, best)) {
                        best = places;
                    }
                }
            }
            return best;
        }

        private static List<Integer> placesOf(int cuts) {
            List<Integer> places = new ArrayList<>();
            for (int p = 0; p < 16; p++) {
                if ((cuts >> p & 1) != 0) {
                    places.add(p);
                }
            }
            return places;
        }

        private static boolean isBetter(List<Integer> one, List<Integer> other) {
            if (one.size() != other.size()) {
                return one.size() < other.size();
            }
            for (int i = 0; i < one.size(); i++) {
                if (!one.get(i).equals(other.get(i))) {
                    return one.get(i) < other.get(i);
                }
            }
            return false;
        }

        void needsJewel(int j) {
            index(j >= 0 && j < ring.size());
        }

        void needsRun(int r) {
            index(r >= 0 && r < runs.size());
        }

        int jewel(int kind, int weight) {
            index(kind >= 0 && kind < 4);
            argument(weight >= 1 && weight <= 9);
            state(ring.size() < 16);
            ring.add(new int[] {kind, weight});
            whole();
            return ring.size() - 1;
        }

        int exchange(int i, int j) {
            needsJewel(i);
            needsJewel(j);
            Collections.swap(ring, i, j);
            return gap();
        }

        int breakAt(int j) {
            needsJewel(j);
            int before = broken;
            broken = j;
            whole();
            return before;
        }

        int turnRound() {
            Collections.reverse(ring);
            whole();
            return ring.size();
        }

        int cut(int p, boolean on) {
            index(p >= 1 && p < ring.size());
            int r = runAt(p);
            Run run = runs.get(r);
            int ahead = p - start(r);
            if (on && ahead > 0) {
                runs.add(r + 1, new Run(run.length - ahead, run.owner));
                run.length = ahead;
            }
            if (!on && ahead == 0) {
                runs.get(r - 1).length += run.length;
                runs.remove(r);
            }
            return runs.size();
        }

        int give(int r, int owner) {
            needsRun(r);
            argument(owner >= -1 && owner <= 1);
            runs.get(r).owner = owner;
            return gap();
        }

        int take(int r) {
            needsRun(r);
            int owner = runs.get(r).owner;
            if (owner != -1) {
                refused++;
                return owner == mover ? 2 : 1;
            }
            runs.get(r).owner = mover;
            mover ^= 1;
            return 0;
        }

        int deal(int sister) {
            index(sister == 0 || sister == 1);
            int owner = sister;
            for (Run run : runs) {
                run.owner = owner;
                owner ^= 1;
            }
            return gap();
        }

        int divide() {
            List<Integer> best = best(broken);
            state(best != null);
            whole();
            for (int p : best) {
                cut(p, true);
            }
            deal(0);
            return best.size();
        }

        int set(int v) {
            argument(v == 0 || v == 1);
            int before = setting;
            setting = v;
            return before;
        }
    }

    private static void index(boolean right) {
        if (!right) {
            throw new IndexOutOfBoundsException();
        }
    }

    private static void argument(boolean right) {
        if (!right) {
            throw new IllegalArgumentException();
        }
    }

    private static void state(boolean right) {
        if (!right) {
            throw new IllegalStateException();
        }
    }

    int append(int c) {
        argument(c >= 0 && c <= 255);
        state(text.length() < 120);
        text += (char) c;
        return text.length();
    }

    int clearText() {
        int before = text.length();
        text = "";
        return before;
    }

    int errorPosition() {
        for (int i = 0; i <= text.length(); i++) {
            Matcher matcher = NECKLACE.matcher(text.substring(0, i));
            if (!matcher.matches() && !matcher.hitEnd()) {
                return i - 1;
            }
        }
        return NECKLACE.matcher(text).matches() ? -1 : text.length();
    }

    int load() {
        state(errorPosition() == -1);
        now = new State();
        past.clear();
        Arrays.fill(slots, null);
        int left = 0;
        Matcher matcher = Pattern.compile("j[a-d][1-9]|[a-z][0-9]*").matcher(text.substring(1));
        while (matcher.find()) {
            left += command(matcher.group()) ? 0 : 1;
        }
        return left;
    }

    private boolean command(String command) {
        char letter = command.charAt(0);
        int first = command.length() > 2 && letter != 'j' ? Integer.parseInt(command.substring(1, 3)) : 0;
        int last = command.length() > 1 ? command.charAt(command.length() - 1) - '0' : 0;
        try {
            switch (letter) {
                case 'j' -> now.jewel("abcd".indexOf(command.charAt(1)), last);
                case 'b' -> now.breakAt(first);
                case 'c' -> now.cut(first, true);
                case 'm' -> now.cut(first, false);
                case 'g' -> now.give(first, last == 2 ? -1 : last);
                case 't' -> {
                    int before = now.refused;
                    boolean taken = now.take(first) == 0;
                    now.refused = before;
                    return taken;
                }
                case 'd' -> now.deal(last);
                case 's' -> now.set(last);
                default -> now.turnRound();
            }
            return true;
        } catch (RuntimeException e) {
            return false;
        }
    }

    int about(int what) {
        argument(what >= 0 && what <= 9);
        int[] all = {now.ring.size(), now.broken, Math.max(0, now.runs.size() - 1), now.runs.size(),
            now.gap(), now.nobodys() == 0 && now.gap() == 0 ? 1 : 0, now.mover, now.nobodys(),
            now.refused, now.setting};
        return all[what];
    }

    int jewelOf(int j, int what) {
        now.needsJewel(j);
        argument(what >= 0 && what <= 2);
        return what < 2 ? now.ring.get(j)[what] : now.string(now.broken).indexOf(j);
    }

    int placeOf(int p, int what) {
        now.needsJewel(p);
        argument(what >= 0 && what <= 3);
        int r = now.runAt(p);
        boolean cut = r > 0 && now.start(r) == p;
        int[] all = {now.string(now.broken).get(p), now.runs.get(r).owner, r, cut ? 1 : 0};
        return all[what];
    }

    int runOf(int r, int what) {
        now.needsRun(r);
        argument(what >= 0 && what <= 3);
        int sum = 0;
        for (int p = now.start(r); p < now.start(r + 1); p++) {
            sum += now.value(now.string(now.broken).get(p));
        }
        int[] all = {now.start(r), now.runs.get(r).length, now.runs.get(r).owner, sum};
        return all[what];
    }

    int has(int sister, int kind) {
        index(sister == 0 || sister == 1);
        index(kind >= 0 && kind <= 3);
        return now.has(sister, kind);
    }

    private int act(Checks.Call call, State before) {
        int answer = call.answer();
        past.addLast(before);
        if (past.size() > 14) {
            past.removeFirst();
        }
        return answer;
    }

    int jewel(int kind, int weight) {
        return act(() -> now.jewel(kind, weight), now.copy());
    }

    int exchange(int i, int j) {
        return act(() -> now.exchange(i, j), now.copy());
    }

    int breakAt(int j) {
        return act(() -> now.breakAt(j), now.copy());
    }

    int turnRound() {
        return act(() -> now.turnRound(), now.copy());
    }

    int cut(int p, boolean on) {
        return act(() -> now.cut(p, on), now.copy());
    }

    int give(int r, int owner) {
        return act(() -> now.give(r, owner), now.copy());
    }

    int take(int r) {
        return act(() -> now.take(r), now.copy());
    }

    int deal(int sister) {
        return act(() -> now.deal(sister), now.copy());
    }

    int divide() {
        return act(() -> now.divide(), now.copy());
    }

    int set(int v) {
        return act(() -> now.set(v), now.copy());
    }

    int undo() {
        state(!past.isEmpty());
        now = past.removeLast();
        return past.size();
    }

    int fewest(int way) {
        argument(way == 0 || way == 1);
        List<Integer> best = now.best(now.broken);
        return best == null ? -1 : best.size();
    }

    int divided(int k) {
        argument(k >= 0);
        List<Integer> best = now.best(now.broken);
        return best == null || k >= best.size() ? -1 : best.get(k);
    }

    int leastGap(int m) {
        argument(m >= 0 && m <= 4);
        int least = 1000;
        for (int cuts = 0; cuts < 1 << now.ring.size(); cuts += 2) {
            if (Integer.bitCount(cuts) <= m) {
                least = Math.min(least, now.gapIfCut(now.broken, cuts));
            }
        }
        return least;
    }

    int bestBreak() {
        int best = -1;
        int least = 7;
        for (int j = 0; j < now.ring.size(); j++) {
            List<Integer> cuts = now.best(j);
            if (cuts != null && cuts.size() < least) {
                best = j;
                least = cuts.size();
            }
        }
        return best;
    }

    int bestRun() {
        int best = -1;
        int least = 1000;
        for (int r = 0; r < now.runs.size(); r++) {
            State copy = now.copy();
            if (copy.take(r) == 0 && copy.gap() < least) {
                best = r;
                least = copy.gap();
            }
        }
        return best;
    }

    int ifGiven(int r, int owner) {
        return now.copy().give(r, owner);
    }

    int runScript(int n, long script) {
        argument(n >= 1 && n <= 3);
        argument(script >= 0);
        StringBuilder digits = new StringBuilder(Long.toString(script));
        argument(digits.length() <= 5 * n);
        while (digits.length() < 5 * n) {
            digits.insert(0, '0');
        }
        State copy = now.copy();
        for (int i = 0; i < n; i++) {
            if (!runs(digits.substring(5 * i, 5 * i + 5), copy)) {
                return i;
            }
        }
        return -1;
    }

    private static boolean runs(String group, State copy) {
        int number = Integer.parseInt(group.substring(1, 3));
        int last = group.charAt(4) - '0';
        int owner = last == 2 ? -1 : last;
        int nn = Integer.parseInt(group.substring(3));
        try {
            if (group.matches("1..0[01]")) {
                copy.cut(number, last == 1);
                return true;
            } else if (group.matches("2..0[0-2]")) {
                copy.give(number, owner);
                return true;
            } else if (group.matches("3..00")) {
                return copy.take(number) == 0;
            } else if (group.matches("4000.")) {
                copy.deal(last);
                return true;
            } else if (group.matches("5..00")) {
                copy.breakAt(number);
                return true;
            } else if (group.matches("600..")) {
                return copy.gap() <= nn;
            } else if (group.matches("7000.")) {
                List<Integer> best = copy.best(copy.broken);
                return best != null && best.size() <= last;
            } else if (group.matches("8..0[0-2]")) {
                copy.needsJewel(number);
                return copy.runs.get(copy.runAt(number)).owner == owner;
            } else if (group.matches("9[01][0-3]..")) {
                return copy.has(number / 10, number % 10) >= nn;
            }
            return false;
        } catch (RuntimeException e) {
            return false;
        }
    }

    int simulate(long seed, int m) {
        argument(m >= 1 && m <= 60);
        State copy = now.copy();
        long x = seed;
        for (int i = 0; i < m; i++) {
            x = x * 6364136223846793005L + 1442695040888963407L;
            int r = (int) (x >>> 33);
            try {
                turn(copy, r % 16, r / 16);
            } catch (RuntimeException e) {
                continue;
            }
        }
        return 10000 * copy.ring.size() + 100 * copy.runs.size() + Math.min(99, copy.gap());
    }

    private static void turn(State copy, int choice, int q) {
        switch (choice) {
            case 0, 1, 2, 3 -> copy.jewel(q % 4, 1 + q / 4 % 9);
            case 4, 5, 6, 7 -> copy.cut(1 + q % 15, q / 16 % 4 != 0);
            case 8, 9 -> copy.give(q % 16, q / 16 % 3 - 1);
            case 10, 11, 12 -> copy.take(q % 16);
            case 13 -> copy.deal(q % 2);
            case 14 -> {
                if (q / 16 % 4 == 0) {
                    copy.breakAt(q % 16);
                } else {
                    copy.exchange(q % 16, q / 64 % 16);
                }
            }
            default -> {
                if (q / 2 % 2 == 0) {
                    copy.set(q % 2);
                } else {
                    copy.turnRound();
                }
            }
        }
    }

    int save(int slot) {
        index(slot == 0 || slot == 1);
        slots[slot] = now.copy();
        return now.ring.size();
    }

    int restore(int slot) {
        index(slot == 0 || slot == 1);
        state(slots[slot] != null);
        now = slots[slot].copy();
        past.clear();
        return now.ring.size();
    }
}
