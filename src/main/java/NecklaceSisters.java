/** Sisters who weigh the runs of a broken necklace alike. */
public final class NecklaceSisters {
    public static final int NONE = -1;

    private static final int MOST_JEWELS = 16;
    private static final int KINDS = 4;
    private static final int HEAVIEST = 9;
    private static final int LONGEST_TEXT = 120;
    private static final int MOST_REMEMBERED = 14;
    private static final int MOST_CUTS = 6;
    private static final int MOST_CUTS_OF_LEAST_GAP = 4;
    private static final int MOST_COMMANDS = 3;
    private static final int MOST_TURNS = 60;

    private final Text text;
    private final Necklace necklace;
    private final Necklace trial;
    private final History history;
    private final Division division;
    private final Slot firstSlot;
    private final Slot secondSlot;

    public NecklaceSisters() {
        text = new Text();
        necklace = new Necklace();
        trial = new Necklace();
        history = new History();
        division = new Division();
        firstSlot = new Slot();
        secondSlot = new Slot();
    }

    // ---- text

    public int append(int c) throws IllegalArgumentException, IllegalStateException {
        if (c < 0 || c > 255) {
            throw new IllegalArgumentException("c is not 0 to 255");
        }
        if (text.length >= LONGEST_TEXT) {
            throw new IllegalStateException("the text has 120 characters");
        }
        text.add((char) c);
        return text.length;
    }

    public int clearText() {
        int before = text.length;
        text.length = 0;
        return before;
    }

    public int errorPosition() {
        return text.firstError();
    }

    public int load() throws IllegalStateException {
        if (text.firstError() != NONE) {
            throw new IllegalStateException("the text is not a necklace");
        }
        necklace.becomeNew();
        history.forgetAll();
        firstSlot.filled = false;
        secondSlot.filled = false;
        return text.performOn(necklace);
    }

    // ---- what there is

    public int about(int what) throws IllegalArgumentException {
        switch (what) {
            case 0: return necklace.jewels;
            case 1: return necklace.broken;
            case 2: return necklace.cutCount();
            case 3: return necklace.runs();
            case 4: return necklace.gap();
            case 5: return necklace.isFair() ? 1 : 0;
            case 6: return necklace.mover;
            case 7: return necklace.placesOfNobody();
            case 8: return necklace.refused;
            case 9: return necklace.setting;
            default: throw new IllegalArgumentException("what is not 0 to 9");
        }
    }

    public int jewelOf(int j, int what)
            throws IndexOutOfBoundsException, IllegalArgumentException {
        if (!necklace.hasJewel(j)) {
            throw new IndexOutOfBoundsException("no such jewel");
        }
        switch (what) {
            case 0: return necklace.kindOf(j);
            case 1: return necklace.weightOf(j);
            case 2: return necklace.placeWith(j);
            default: throw new IllegalArgumentException("what is not 0 to 2");
        }
    }

    public int placeOf(int p, int what)
            throws IndexOutOfBoundsException, IllegalArgumentException {
        if (!necklace.hasPlace(p)) {
            throw new IndexOutOfBoundsException("no such place");
        }
        switch (what) {
            case 0: return necklace.jewelAt(p);
            case 1: return necklace.ownerAt(p);
            case 2: return necklace.runAt(p);
            case 3: return necklace.isCut(p) ? 1 : 0;
            default: throw new IllegalArgumentException("what is not 0 to 3");
        }
    }

    public int runOf(int r, int what)
            throws IndexOutOfBoundsException, IllegalArgumentException {
        if (!necklace.hasRun(r)) {
            throw new IndexOutOfBoundsException("no such run");
        }
        switch (what) {
            case 0: return necklace.firstPlaceOf(r);
            case 1: return necklace.placesOf(r);
            case 2: return necklace.ownerAt(necklace.firstPlaceOf(r));
            case 3: return necklace.valueOfRun(r);
            default: throw new IllegalArgumentException("what is not 0 to 3");
        }
    }

    public int has(int sister, int kind) throws IndexOutOfBoundsException {
        if (!isSister(sister) || !isKind(kind)) {
            throw new IndexOutOfBoundsException("no such sister or kind");
        }
        return necklace.holding(sister, kind);
    }

    // ---- actions

    public int jewel(int kind, int weight)
            throws IndexOutOfBoundsException, IllegalArgumentException, IllegalStateException {
        if (!isKind(kind)) {
            throw new IndexOutOfBoundsException("no such kind");
        }
        if (!isWeight(weight)) {
            throw new IllegalArgumentException("weight is not 1 to 9");
        }
        if (necklace.jewels >= MOST_JEWELS) {
            throw new IllegalStateException("there are 16 jewels");
        }
        history.remember(necklace);
        necklace.addJewel(kind, weight);
        return necklace.jewels - 1;
    }

    public int exchange(int i, int j) throws IndexOutOfBoundsException {
        if (!necklace.hasJewel(i) || !necklace.hasJewel(j)) {
            throw new IndexOutOfBoundsException("no such jewel");
        }
        history.remember(necklace);
        necklace.swapJewels(i, j);
        return necklace.gap();
    }

    public int breakAt(int j) throws IndexOutOfBoundsException {
        if (!necklace.hasJewel(j)) {
            throw new IndexOutOfBoundsException("no such jewel");
        }
        history.remember(necklace);
        int before = necklace.broken;
        necklace.breakAhead(j);
        return before;
    }

    public int turnRound() {
        history.remember(necklace);
        necklace.reverseRing();
        return necklace.jewels;
    }

    public int cut(int p, boolean on) throws IndexOutOfBoundsException {
        if (!necklace.canBeCutAt(p)) {
            throw new IndexOutOfBoundsException("no such place");
        }
        history.remember(necklace);
        necklace.setCut(p, on);
        return necklace.runs();
    }

    public int give(int r, int owner)
            throws IndexOutOfBoundsException, IllegalArgumentException {
        if (!necklace.hasRun(r)) {
            throw new IndexOutOfBoundsException("no such run");
        }
        if (!isOwner(owner)) {
            throw new IllegalArgumentException("owner is not 0, 1 or NONE");
        }
        history.remember(necklace);
        necklace.giveRun(r, owner);
        return necklace.gap();
    }

    public int take(int r) throws IndexOutOfBoundsException {
        if (!necklace.hasRun(r)) {
            throw new IndexOutOfBoundsException("no such run");
        }
        history.remember(necklace);
        int reason = necklace.reasonAgainstTaking(r);
        if (reason == 0) {
            necklace.takeRun(r);
        } else {
            necklace.refused++;
        }
        return reason;
    }

    public int deal(int sister) throws IndexOutOfBoundsException {
        if (!isSister(sister)) {
            throw new IndexOutOfBoundsException("no such sister");
        }
        history.remember(necklace);
        necklace.dealRuns(sister);
        return necklace.gap();
    }

    public int divide() throws IllegalStateException {
        int cuts = fewestCuts();
        if (cuts == NONE) {
            throw new IllegalStateException("the string cannot be divided");
        }
        history.remember(necklace);
        necklace.loosen();
        for (int k = 0; k < cuts; k++) {
            necklace.setCut(division.foundCut(k), true);
        }
        necklace.dealRuns(0);
        return cuts;
    }

    public int set(int v) throws IllegalArgumentException {
        if (!isSetting(v)) {
            throw new IllegalArgumentException("v is neither 0 nor 1");
        }
        history.remember(necklace);
        int before = necklace.setting;
        necklace.chooseSetting(v);
        return before;
    }

    public int undo() throws IllegalStateException {
        if (history.count <= 0) {
            throw new IllegalStateException("no state is remembered");
        }
        history.takeBack(necklace);
        return history.count;
    }

    // ---- what would be

    public int fewest(int way) throws IllegalArgumentException {
        if (way == 0) {
            return fewestCuts();
        }
        if (way != 1) {
            throw new IllegalArgumentException("way is neither 0 nor 1");
        }
        division.weigh(necklace, necklace.broken);
        return division.fewestByOwners();
    }

    public int divided(int k) throws IllegalArgumentException {
        if (k < 0) {
            throw new IllegalArgumentException("k is negative");
        }
        return k < fewestCuts() ? division.foundCut(k) : NONE;
    }

    public int leastGap(int m) throws IllegalArgumentException {
        if (m < 0 || m > MOST_CUTS_OF_LEAST_GAP) {
            throw new IllegalArgumentException("m is not 0 to 4");
        }
        division.weigh(necklace, necklace.broken);
        return division.leastGapWithin(m);
    }

    public int bestBreak() {
        int best = NONE;
        int limit = MOST_CUTS;
        for (int j = 0; j < necklace.jewels; j++) {
            division.weigh(necklace, j);
            int cuts = division.fewestByCuts(limit);
            if (cuts != NONE) {
                best = j;
                // A later jewel counts only if it needs fewer cuts.
                limit = cuts - 1;
            }
        }
        return best;
    }

    public int bestRun() {
        int best = NONE;
        int least = 0;
        for (int r = 0; r < necklace.runs(); r++) {
            if (necklace.reasonAgainstTaking(r) == 0) {
                int gap = gapWith(r, necklace.mover);
                if (best == NONE || gap < least) {
                    least = gap;
                    best = r;
                }
            }
        }
        return best;
    }

    public int ifGiven(int r, int owner)
            throws IndexOutOfBoundsException, IllegalArgumentException {
        if (!necklace.hasRun(r)) {
            throw new IndexOutOfBoundsException("no such run");
        }
        if (!isOwner(owner)) {
            throw new IllegalArgumentException("owner is not 0, 1 or NONE");
        }
        return gapWith(r, owner);
    }

    // ---- scripts, simulations

    public int runScript(int n, long script) throws IllegalArgumentException {
        if (n < 1 || n > MOST_COMMANDS) {
            throw new IllegalArgumentException("n is not 1 to 3");
        }
        if (script < 0 || Script.groupsAbove(script, n) != 0) {
            throw new IllegalArgumentException("script is negative or too long");
        }
        trial.becomeLike(necklace);
        for (int i = 0; i < n; i++) {
            int group = (int) (Script.groupsAbove(script, n - 1 - i) % 100000);
            if (!Script.succeeds(group, trial, division)) {
                return i;
            }
        }
        return NONE;
    }

    public int simulate(long seed, int m) throws IllegalArgumentException {
        if (m < 1 || m > MOST_TURNS) {
            throw new IllegalArgumentException("m is not 1 to 60");
        }
        trial.becomeLike(necklace);
        Simulation.play(seed, m, trial);
        return 10000 * trial.jewels + 100 * trial.runs() + Math.min(trial.gap(), 99);
    }

    // ---- save slots

    public int save(int slot) throws IndexOutOfBoundsException {
        if (slot < 0 || slot > 1) {
            throw new IndexOutOfBoundsException("no such save slot");
        }
        Slot chosen = slot == 0 ? firstSlot : secondSlot;
        chosen.kept.becomeLike(necklace);
        chosen.filled = true;
        return necklace.jewels;
    }

    public int restore(int slot) throws IndexOutOfBoundsException, IllegalStateException {
        if (slot < 0 || slot > 1) {
            throw new IndexOutOfBoundsException("no such save slot");
        }
        Slot chosen = slot == 0 ? firstSlot : secondSlot;
        if (!chosen.filled) {
            throw new IllegalStateException("nothing has been saved in this slot");
        }
        necklace.becomeLike(chosen.kept);
        history.forgetAll();
        return necklace.jewels;
    }

    private int fewestCuts() {
        division.weigh(necklace, necklace.broken);
        return division.fewestByCuts(MOST_CUTS);
    }

    private int gapWith(int r, int owner) {
        trial.becomeLike(necklace);
        trial.giveRun(r, owner);
        return trial.gap();
    }

    private static boolean isSister(int sister) {
        return sister == 0 || sister == 1;
    }

    private static boolean isOwner(int owner) {
        return owner == NONE || isSister(owner);
    }

    private static boolean isKind(int kind) {
        return kind >= 0 && kind < KINDS;
    }

    private static boolean isWeight(int weight) {
        return weight >= 1 && weight <= HEAVIEST;
    }

    private static boolean isSetting(int v) {
        return v == 0 || v == 1;
    }

    /** The owner that a digit of a text or a script means. */
    private static int ownerFor(int digit) {
        return digit == 2 ? NONE : digit;
    }

    /**
     * One state: the ring, its break, the cuts and owners of the string, and whose move it is.
     * A change answers false, and changes nothing, where the method of the face would throw.
     */
    private static final class Necklace {
        int jewels;
        int broken;
        int mover;
        int refused;
        int setting;
        /** Bit p tells whether a cut is ahead of the place p. */
        int cuts;
        final int[] kinds = new int[MOST_JEWELS];
        final int[] weights = new int[MOST_JEWELS];
        final int[] owners = new int[MOST_JEWELS];

        void becomeNew() {
            jewels = 0;
            broken = 0;
            mover = 0;
            refused = 0;
            setting = 0;
            loosen();
        }

        void becomeLike(Necklace other) {
            if (other == null) {
                return;
            }
            jewels = other.jewels;
            broken = other.broken;
            mover = other.mover;
            refused = other.refused;
            setting = other.setting;
            cuts = other.cuts;
            for (int i = 0; i < MOST_JEWELS; i++) {
                putJewel(i, other.kindOf(i), other.weightOf(i));
                putOwner(i, other.ownerAt(i));
            }
        }

        int kindOf(int j) {
            return j >= 0 && j < kinds.length ? kinds[j] : 0;
        }

        int weightOf(int j) {
            return j >= 0 && j < weights.length ? weights[j] : 0;
        }

        int ownerAt(int p) {
            return p >= 0 && p < owners.length ? owners[p] : NONE;
        }

        private void putJewel(int j, int kind, int weight) {
            if (j >= 0 && j < kinds.length && j < weights.length) {
                kinds[j] = kind;
                weights[j] = weight;
            }
        }

        private void putOwner(int p, int owner) {
            if (p >= 0 && p < owners.length) {
                owners[p] = owner;
            }
        }

        boolean hasJewel(int j) {
            return j >= 0 && j < jewels;
        }

        boolean hasPlace(int p) {
            return p >= 0 && p < jewels;
        }

        boolean canBeCutAt(int p) {
            return p >= 1 && p < jewels;
        }

        boolean hasRun(int r) {
            return r >= 0 && r < runs();
        }

        int valueOf(int j) {
            return setting == 0 ? 1 : weightOf(j);
        }

        int jewelAt(int p) {
            int j = broken + p;
            return j < jewels ? j : j - jewels;
        }

        int placeWith(int j) {
            int p = j - broken;
            return p >= 0 ? p : p + jewels;
        }

        boolean isCut(int p) {
            return (cuts >>> p & 1) != 0;
        }

        int cutCount() {
            return Integer.bitCount(cuts);
        }

        int runs() {
            return jewels == 0 ? 0 : Integer.bitCount(cuts) + 1;
        }

        int runAt(int p) {
            return Integer.bitCount(cuts & (2 << p) - 1);
        }

        int firstPlaceOf(int r) {
            for (int p = 0; p < jewels; p++) {
                if (runAt(p) == r) {
                    return p;
                }
            }
            return NONE;
        }

        int placesOf(int r) {
            int count = 0;
            for (int p = 0; p < jewels; p++) {
                if (runAt(p) == r) {
                    count++;
                }
            }
            return count;
        }

        int valueOfRun(int r) {
            int sum = 0;
            for (int p = 0; p < jewels; p++) {
                if (runAt(p) == r) {
                    sum += valueOf(jewelAt(p));
                }
            }
            return sum;
        }

        int placesOfNobody() {
            int count = 0;
            for (int p = 0; p < jewels; p++) {
                if (ownerAt(p) == NONE) {
                    count++;
                }
            }
            return count;
        }

        int holding(int sister, int kind) {
            int sum = 0;
            for (int p = 0; p < jewels; p++) {
                int j = jewelAt(p);
                if (ownerAt(p) == sister && kindOf(j) == kind) {
                    sum += valueOf(j);
                }
            }
            return sum;
        }

        int gap() {
            int sum = 0;
            for (int kind = 0; kind < KINDS; kind++) {
                sum += Math.abs(holding(0, kind) - holding(1, kind));
            }
            return sum;
        }

        boolean isFair() {
            return placesOfNobody() == 0 && gap() == 0;
        }

        /** 0 if the sister on the move can take the run. */
        int reasonAgainstTaking(int r) {
            int owner = ownerAt(firstPlaceOf(r));
            if (owner == NONE) {
                return 0;
            }
            return owner == mover ? 2 : 1;
        }

        void loosen() {
            cuts = 0;
            for (int p = 0; p < MOST_JEWELS; p++) {
                putOwner(p, NONE);
            }
        }

        boolean addJewel(int kind, int weight) {
            if (!isKind(kind) || !isWeight(weight) || jewels >= MOST_JEWELS) {
                return false;
            }
            putJewel(jewels, kind, weight);
            jewels++;
            loosen();
            return true;
        }

        boolean swapJewels(int i, int j) {
            if (!hasJewel(i) || !hasJewel(j)) {
                return false;
            }
            int kind = kindOf(i);
            int weight = weightOf(i);
            putJewel(i, kindOf(j), weightOf(j));
            putJewel(j, kind, weight);
            return true;
        }

        boolean breakAhead(int j) {
            if (!hasJewel(j)) {
                return false;
            }
            broken = j;
            loosen();
            return true;
        }

        void reverseRing() {
            for (int j = 0; j < jewels - 1 - j; j++) {
                swapJewels(j, jewels - 1 - j);
            }
            loosen();
        }

        boolean setCut(int p, boolean on) {
            if (!canBeCutAt(p)) {
                return false;
            }
            if (on) {
                cuts |= 1 << p;
            } else if (isCut(p)) {
                cuts &= ~(1 << p);
                giveRun(runAt(p), ownerAt(p - 1));
            }
            return true;
        }

        boolean giveRun(int r, int owner) {
            if (!hasRun(r) || !isOwner(owner)) {
                return false;
            }
            for (int p = 0; p < jewels; p++) {
                if (runAt(p) == r) {
                    putOwner(p, owner);
                }
            }
            return true;
        }

        boolean takeRun(int r) {
            if (!hasRun(r) || reasonAgainstTaking(r) != 0) {
                return false;
            }
            giveRun(r, mover);
            mover = 1 - mover;
            return true;
        }

        boolean dealRuns(int sister) {
            if (!isSister(sister)) {
                return false;
            }
            for (int p = 0; p < jewels; p++) {
                putOwner(p, sister + runAt(p) & 1);
            }
            return true;
        }

        boolean chooseSetting(int v) {
            if (!isSetting(v)) {
                return false;
            }
            setting = v;
            return true;
        }
    }

    /** A save slot. */
    private static final class Slot {
        final Necklace kept = new Necklace();
        boolean filled;
    }

    /** The remembered states, in a ring, so that the oldest one is overwritten when it is full. */
    private static final class History {
        final Necklace[] states = new Necklace[MOST_REMEMBERED];
        int next;
        int count;

        History() {
            for (int i = 0; i < states.length; i++) {
                states[i] = new Necklace();
            }
        }

        void forgetAll() {
            count = 0;
        }

        void remember(Necklace necklace) {
            if (next < 0 || next >= states.length) {
                return;
            }
            Necklace state = states[next];
            if (state == null) {
                return;
            }
            state.becomeLike(necklace);
            next = next + 1 < states.length ? next + 1 : 0;
            count = Math.min(count + 1, states.length);
        }

        void takeBack(Necklace necklace) {
            if (count <= 0 || necklace == null) {
                return;
            }
            int last = next > 0 ? next - 1 : states.length - 1;
            if (last < 0 || last >= states.length) {
                return;
            }
            necklace.becomeLike(states[last]);
            next = last;
            count--;
        }
    }

    /**
     * Weighs ways to divide a string. What is had of the four kinds is held in one long, 16 bits
     * a kind: no kind comes to more than 144, so these parts never reach into one another.
     */
    private static final class Division {
        private static final int BITS = 16;
        private static final int PART = 0xFFFF;
        private static final long LOWEST_BITS = 0x0001000100010001L;
        private static final long HIGHEST_BITS = 0x8000800080008000L;

        /** What the places ahead of each place, or of the end, come to. */
        final long[] ahead = new long[MOST_JEWELS + 1];
        final int[] found = new int[MOST_CUTS];
        int places;
        long half;

        void weigh(Necklace necklace, int broken) {
            places = 0;
            half = 0;
            if (necklace == null) {
                return;
            }
            long sum = 0;
            for (int i = 0; i < necklace.jewels && i + 1 < ahead.length; i++) {
                int j = broken + i < necklace.jewels ? broken + i : broken + i - necklace.jewels;
                sum += (long) necklace.valueOf(j) << BITS * necklace.kindOf(j);
                ahead[i + 1] = sum;
                places = i + 1;
            }
            half = sum >>> 1;
        }

        private long sumAhead(int p) {
            return p >= 0 && p < ahead.length ? ahead[p] : 0;
        }

        private boolean isOddOfAKind() {
            return (sumAhead(places) & LOWEST_BITS) != 0;
        }

        private boolean isOverHalf(long sum) {
            return ((half | HIGHEST_BITS) - sum & HIGHEST_BITS) != HIGHEST_BITS;
        }

        private void keepCut(int k, int p) {
            if (k >= 0 && k < found.length) {
                found[k] = p;
            }
        }

        int foundCut(int k) {
            return k >= 0 && k < found.length ? found[k] : NONE;
        }

        /** Also finds the cuts, those with the lowest places. */
        int fewestByCuts(int limit) {
            if (isOddOfAKind()) {
                return NONE;
            }
            for (int count = 0; count <= limit && count <= MOST_CUTS; count++) {
                if (dividesWith(this, count, 0, 0, 0)) {
                    return count;
                }
            }
            return NONE;
        }

        /** What the first sister has, with the run that begins at one place, up to another. */
        private long withRun(long sum, int run, int from, int to) {
            return (run & 1) == 0 ? sum + sumAhead(to) - sumAhead(from) : sum;
        }

        private static boolean dividesWith(Division d, int count, int run, int from, long sum) {
            if (run >= count) {
                return d.withRun(sum, run, from, d.places) == d.half;
            }
            for (int p = from + 1; p < d.places; p++) {
                long first = d.withRun(sum, run, from, p);
                // Longer runs here only add to what is too much already.
                if (d.isOverHalf(first) || d.isOverHalf(d.sumAhead(p) - first)) {
                    return false;
                }
                if (dividesWith(d, count, run + 1, p, first)) {
                    d.keepCut(run, p);
                    return true;
                }
            }
            return false;
        }

        int fewestByOwners() {
            if (places == 0) {
                return 0;
            }
            if (isOddOfAKind()) {
                return NONE;
            }
            int fewest = MOST_CUTS + 1;
            int owned = 0;
            long sum = 0;
            // The last place is the other sister's: with both exchanged, the cuts are the same.
            // Each way differs from the one before it (a Gray code) by one place.
            for (int way = 1; way < 1 << places - 1; way++) {
                int p = Integer.numberOfTrailingZeros(way);
                long value = sumAhead(p + 1) - sumAhead(p);
                owned ^= 1 << p;
                sum += (owned >>> p & 1) != 0 ? value : -value;
                if (sum == half) {
                    fewest = Math.min(fewest, Integer.bitCount(owned ^ owned >>> 1));
                }
            }
            return fewest > MOST_CUTS ? NONE : fewest;
        }

        int leastGapWithin(int m) {
            return leastFrom(this, m, 0, 0, 0);
        }

        private static int leastFrom(Division d, int m, int run, int from, long sum) {
            int least = d.gapOf(d.withRun(sum, run, from, d.places));
            for (int p = from + 1; run < m && p < d.places; p++) {
                least = Math.min(least, leastFrom(d, m, run + 1, p, d.withRun(sum, run, from, p)));
            }
            return least;
        }

        private int gapOf(long sum) {
            long total = sumAhead(places);
            int gap = 0;
            for (int kind = 0; kind < KINDS; kind++) {
                int all = (int) (total >>> BITS * kind) & PART;
                int first = (int) (sum >>> BITS * kind) & PART;
                gap += Math.abs(all - 2 * first);
            }
            return gap;
        }
    }

    /** The text buffer, and what a necklace as a text means. */
    private static final class Text {
        final char[] signs = new char[LONGEST_TEXT];
        int length;

        void add(char sign) {
            if (length >= 0 && length < signs.length) {
                signs[length] = sign;
                length++;
            }
        }

        private char signAt(int i) {
            return i >= 0 && i < length && i < signs.length ? signs[i] : 0;
        }

        private int digitAt(int i) {
            return signAt(i) - '0';
        }

        private int numberAt(int i) {
            return 10 * digitAt(i) + digitAt(i + 1);
        }

        /**
         * What follows a command's letter: k a kind, w a weight, t and u the digits of 00 to 15,
         * t and p those of 01 to 15, o an owner, z 0 or 1; null if no command has this letter.
         */
        private static String formOf(char letter) {
            switch (letter) {
                case 'j': return "kw";
                case 'b': return "tu";
                case 'c': return "tp";
                case 'm': return "tp";
                case 'g': return "tuo";
                case 't': return "tu";
                case 'd': return "z";
                case 's': return "z";
                case 'r': return "";
                default: return null;
            }
        }

        private static boolean fits(char form, char sign, char before) {
            switch (form) {
                case 'k': return sign >= 'a' && sign <= 'd';
                case 'w': return sign >= '1' && sign <= '9';
                case 'u': return sign >= '0' && sign <= (before == '1' ? '5' : '9');
                case 'p': return before == '1'
                        ? sign >= '0' && sign <= '5' : sign >= '1' && sign <= '9';
                case 'o': return sign >= '0' && sign <= '2';
                default: return sign == '0' || sign == '1';
            }
        }

        int firstError() {
            if (signAt(0) != 'N') {
                return 0;
            }
            String form = "";
            int done = 0;
            for (int i = 1; i < length; i++) {
                if (done >= form.length()) {
                    form = formOf(signAt(i));
                    done = 0;
                    if (form == null) {
                        return i;
                    }
                } else {
                    if (!fits(form.charAt(done), signAt(i), signAt(i - 1))) {
                        return i;
                    }
                    done++;
                }
            }
            return done < form.length() ? length : NONE;
        }

        /** Needs a text without an error; returns how many commands are left out. */
        int performOn(Necklace necklace) {
            int leftOut = 0;
            for (int i = 1; i < length; i++) {
                String form = formOf(signAt(i));
                if (form == null) {
                    return leftOut;
                }
                if (!performs(i, necklace)) {
                    leftOut++;
                }
                i += form.length();
            }
            return leftOut;
        }

        private boolean performs(int i, Necklace necklace) {
            if (necklace == null) {
                return false;
            }
            switch (signAt(i)) {
                case 'j': return necklace.addJewel(signAt(i + 1) - 'a', digitAt(i + 2));
                case 'b': return necklace.breakAhead(numberAt(i + 1));
                case 'c': return necklace.setCut(numberAt(i + 1), true);
                case 'm': return necklace.setCut(numberAt(i + 1), false);
                case 'g': return necklace.giveRun(numberAt(i + 1), ownerFor(digitAt(i + 3)));
                case 't': return necklace.takeRun(numberAt(i + 1));
                case 'd': return necklace.dealRuns(digitAt(i + 1));
                case 's': return necklace.chooseSetting(digitAt(i + 1));
                default:
                    necklace.reverseRing();
                    return true;
            }
        }
    }

    /** Scripts: groups of five digits that do or ask something. */
    private static final class Script {
        /** What is left of a script without its lowest groups. */
        static long groupsAbove(long script, int count) {
            long rest = script;
            for (int i = 0; i < count; i++) {
                rest /= 100000;
            }
            return rest;
        }

        static boolean succeeds(int group, Necklace necklace, Division division) {
            if (necklace == null || division == null) {
                return false;
            }
            int number = group / 100 % 100;
            int fourth = group / 10 % 10;
            int last = group % 10;
            switch (group / 10000) {
                case 1: return fourth == 0 && last <= 1 && necklace.setCut(number, last == 1);
                case 2: return fourth == 0 && last <= 2
                        && necklace.giveRun(number, ownerFor(last));
                case 3: return fourth == 0 && last == 0 && necklace.takeRun(number);
                case 4: return number == 0 && fourth == 0 && necklace.dealRuns(last);
                case 5: return fourth == 0 && last == 0 && necklace.breakAhead(number);
                case 6: return number == 0 && necklace.gap() <= group % 100;
                case 7: return number == 0 && fourth == 0
                        && isDividedWithin(last, necklace, division);
                case 8: return fourth == 0 && last <= 2 && necklace.hasPlace(number)
                        && necklace.ownerAt(number) == ownerFor(last);
                case 9: return isSister(number / 10) && isKind(number % 10)
                        && necklace.holding(number / 10, number % 10) >= group % 100;
                default: return false;
            }
        }

        private static boolean isDividedWithin(int limit, Necklace necklace, Division division) {
            division.weigh(necklace, necklace.broken);
            return division.fewestByCuts(limit) != NONE;
        }
    }

    /** Simulations: turns that a row of numbers tells. */
    private static final class Simulation {
        static void play(long seed, int turns, Necklace necklace) {
            if (necklace == null) {
                return;
            }
            long x = seed;
            for (int i = 0; i < turns; i++) {
                x = x * 6364136223846793005L + 1442695040888963407L;
                turn((int) (x >>> 33), necklace);
            }
        }

        private static void turn(int r, Necklace necklace) {
            int q = r / 16;
            int choice = r % 16;
            if (choice <= 3) {
                necklace.addJewel(q % 4, 1 + q / 4 % 9);
            } else if (choice <= 7) {
                necklace.setCut(1 + q % 15, q / 16 % 4 != 0);
            } else if (choice <= 9) {
                necklace.giveRun(q % 16, q / 16 % 3 - 1);
            } else if (choice <= 12) {
                necklace.takeRun(q % 16);
            } else if (choice == 13) {
                necklace.dealRuns(q % 2);
            } else if (choice == 14) {
                moveJewels(q, necklace);
            } else if (q / 2 % 2 == 0) {
                necklace.chooseSetting(q % 2);
            } else {
                necklace.reverseRing();
            }
        }

        private static void moveJewels(int q, Necklace necklace) {
            if (q / 16 % 4 == 0) {
                necklace.breakAhead(q % 16);
            } else {
                necklace.swapJewels(q % 16, q / 64 % 16);
            }
        }
    }
}
