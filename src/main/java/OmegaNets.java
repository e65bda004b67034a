/**
 * Nets of places with tokens and of transitions that move them: played step by step, explored
 * forwards by a tree, and backwards from a wanted marking by goals.
 */
public final class OmegaNets {
    public static final int OMEGA = -1;
    public static final int NONE = -2;

    private static final int MOST_PLACES = 6;
    private static final int MOST_TRANSITIONS = 8;
    private static final int MOST_ON_ARC = 9;
    private static final int MOST_TOKENS = 100;
    private static final int MOST_NODES = 200;
    private static final int MOST_GOALS = 48;

    // Inside, OMEGA is held as a number that no count reaches, so that plain comparisons see it as the greatest.
    private static final int ENDLESS = 1_000_000_000;

    private static final int ASK_PARENT = 0;
    private static final int ASK_TRANSITION = 1;
    private static final int ASK_LEAF = 2;

    private final Net net;
    private final Tree tree;
    private final Goals goals;
    private final int[] wanted;
    private final int[] present;
    private int firings;

    public OmegaNets(int places, int transitions) {
        net = new Net(within(places, 1, MOST_PLACES), within(transitions, 1, MOST_TRANSITIONS));
        tree = new Tree(net);
        goals = new Goals(net);
        wanted = new int[net.places];
        present = new int[net.places];
        firings = 0;
    }

    public int arc(int t, int p, int need, int give) throws IndexOutOfBoundsException, IllegalArgumentException {
        checkTransition(t);
        checkPlace(p);
        checkNumber(need, MOST_ON_ARC);
        checkNumber(give, MOST_ON_ARC);
        net.needs[t][p] = need;
        net.gives[t][p] = give;
        forgetTreeAndGoals();
        return give - need;
    }

    public int start(int p, int n) throws IndexOutOfBoundsException, IllegalArgumentException {
        checkPlace(p);
        checkNumber(n, MOST_TOKENS);
        int before = net.first[p];
        net.first[p] = n;
        returnToStart();
        forgetTreeAndGoals();
        return before;
    }

    public int want(int p, int n) throws IndexOutOfBoundsException, IllegalArgumentException {
        checkPlace(p);
        checkNumber(n, MOST_TOKENS);
        int before = wanted[p];
        wanted[p] = n;
        goals.made = false;
        return before;
    }

    public boolean fire(int t) throws IndexOutOfBoundsException {
        checkTransition(t);
        if (!net.enables(present, t)) {
            return false;
        }
        net.move(present, t, present);
        firings++;
        return true;
    }

    public int at(int p) throws IndexOutOfBoundsException {
        checkPlace(p);
        return present[p];
    }

    public int reset() {
        int before = firings;
        returnToStart();
        return before;
    }

    public int explore() throws IllegalStateException {
        tree.grow();
        if (!tree.made) {
            throw new IllegalStateException("the tree would have too many nodes");
        }
        return tree.size;
    }

    public int count(int node, int p) throws IllegalStateException, IndexOutOfBoundsException {
        checkTree();
        checkNode(node);
        checkPlace(p);
        return shown(tree.markings[node][p]);
    }

    public int node(int node, int what)
            throws IllegalStateException, IndexOutOfBoundsException, IllegalArgumentException {
        checkTree();
        checkNode(node);
        switch (what) {
            case ASK_PARENT:
                return tree.parents[node];
            case ASK_TRANSITION:
                return tree.transitions[node];
            case ASK_LEAF:
                return tree.leaves[node] ? 1 : 0;
            default:
                throw new IllegalArgumentException("a node is not asked for this");
        }
    }

    public int path(int node, int i) throws IllegalStateException, IndexOutOfBoundsException {
        checkTree();
        checkNode(node);
        checkIndex(i, tree.depths[node]);
        return tree.stepTo(node, i);
    }

    public int bound(int p) throws IllegalStateException, IndexOutOfBoundsException {
        checkTree();
        checkPlace(p);
        return shown(tree.greatest(p));
    }

    public int tops() throws IllegalStateException {
        checkTree();
        return tree.peakCount;
    }

    public int top(int k) throws IllegalStateException, IndexOutOfBoundsException {
        checkTree();
        checkIndex(k, tree.peakCount);
        return tree.peaks[k];
    }

    public boolean covered() throws IllegalStateException {
        checkTree();
        return tree.reachesAbove(wanted);
    }

    public boolean lives(int t) throws IllegalStateException, IndexOutOfBoundsException {
        checkTree();
        checkTransition(t);
        return tree.everEnables(t);
    }

    public int dead() throws IllegalStateException {
        checkTree();
        return tree.firstStuck();
    }

    public int back() throws IllegalStateException {
        goals.gather(wanted);
        if (!goals.made) {
            throw new IllegalStateException("there would be too many goals");
        }
        return goals.keptCount();
    }

    public int goal(int k, int p) throws IllegalStateException, IndexOutOfBoundsException {
        checkGoals();
        int g = goals.kept(k);
        if (g == NONE) {
            throw new IndexOutOfBoundsException("no such goal");
        }
        checkPlace(p);
        return goals.markings[g][p];
    }

    public int length() throws IllegalStateException, UnsupportedOperationException {
        checkGoals();
        return goals.depths[goalBelowStart()];
    }

    public int way(int i)
            throws IllegalStateException, UnsupportedOperationException, IndexOutOfBoundsException {
        checkGoals();
        int g = goalBelowStart();
        checkIndex(i, goals.depths[g]);
        return goals.stepFrom(g, i);
    }

    private void returnToStart() {
        System.arraycopy(net.first, 0, present, 0, net.places);
        firings = 0;
    }

    private void forgetTreeAndGoals() {
        tree.made = false;
        goals.made = false;
    }

    private int goalBelowStart() {
        int g = goals.firstBelow(net.first);
        if (g == NONE) {
            throw new UnsupportedOperationException("the wanted marking can't be covered");
        }
        return g;
    }

    private void checkTransition(int t) {
        checkIndex(t, net.transitions);
    }

    private void checkPlace(int p) {
        checkIndex(p, net.places);
    }

    private void checkNode(int n) {
        checkIndex(n, tree.size);
    }

    private void checkTree() {
        if (!tree.made) {
            throw new IllegalStateException("there is no tree");
        }
    }

    private void checkGoals() {
        if (!goals.made) {
            throw new IllegalStateException("there are no goals");
        }
    }

    private static void checkIndex(int i, int size) {
        if (i < 0 || i >= size) {
            throw new IndexOutOfBoundsException("there is none such");
        }
    }

    private static void checkNumber(int n, int most) {
        if (n < 0 || n > most) {
            throw new IllegalArgumentException("the number is out of its range");
        }
    }

    private static int within(int n, int least, int most) {
        return Math.max(least, Math.min(most, n));
    }

    private static int shown(int tokens) {
        return tokens == ENDLESS ? OMEGA : tokens;
    }

    private static boolean isBelow(int[] low, int[] high) {
        for (int p = 0; p < low.length && p < high.length; p++) {
            if (low[p] > high[p]) {
                return false;
            }
        }
        return true;
    }

    private static boolean isSame(int[] one, int[] other) {
        return isBelow(one, other) && isBelow(other, one);
    }

    /** What the transitions need and give, and the start. */
    private static final class Net {
        final int places;
        final int transitions;
        final int[][] needs;
        final int[][] gives;
        final int[] first;

        Net(int places, int transitions) {
            this.places = places;
            this.transitions = transitions;
            needs = new int[transitions][places];
            gives = new int[transitions][places];
            first = new int[places];
        }

        boolean enables(int[] marking, int t) {
            return isBelow(needs[t], marking);
        }

        boolean isStuck(int[] marking) {
            for (int t = 0; t < transitions; t++) {
                if (enables(marking, t)) {
                    return false;
                }
            }
            return true;
        }

        void move(int[] from, int t, int[] to) {
            for (int p = 0; p < places; p++) {
                to[p] = from[p] == ENDLESS ? ENDLESS : from[p] - needs[t][p] + gives[t][p];
            }
        }

        /** Writes the least marking in which t can be fired and leads to one that the goal is below. */
        void moveBack(int[] goal, int t, int[] to) {
            for (int p = 0; p < places; p++) {
                to[p] = Math.max(needs[t][p], goal[p] - gives[t][p] + needs[t][p]);
            }
        }
    }

    /** The markings that come of the start, with counts without bound. */
    private static final class Tree {
        final Net net;
        final int[][] markings;
        final int[] parents = new int[MOST_NODES];
        final int[] transitions = new int[MOST_NODES];
        final int[] depths = new int[MOST_NODES];
        final boolean[] leaves = new boolean[MOST_NODES];
        final int[] peaks = new int[MOST_NODES];
        int size;
        int peakCount;
        boolean made;

        Tree(Net net) {
            this.net = net;
            markings = new int[MOST_NODES][net.places];
        }

        void grow() {
            made = false;
            plant();
            boolean fits = true;
            for (int n = 0; fits && n < size && n < MOST_NODES; n++) {
                leaves[n] = repeatsOneAbove(n);
                fits = leaves[n] || branch(n);
            }
            if (fits) {
                findPeaks();
                made = true;
            }
        }

        private void plant() {
            System.arraycopy(net.first, 0, markings[0], 0, net.places);
            parents[0] = NONE;
            transitions[0] = NONE;
            depths[0] = 0;
            size = 1;
        }

        private boolean repeatsOneAbove(int n) {
            int above = parents[n];
            for (int step = 0; step < depths[n]; step++) {
                if (isSame(markings[above], markings[n])) {
                    return true;
                }
                above = parents[above];
            }
            return false;
        }

        /** Makes the nodes that come from n: false when there is no room for them all. */
        private boolean branch(int n) {
            for (int t = 0; t < net.transitions; t++) {
                if (net.enables(markings[n], t)) {
                    if (size == MOST_NODES) {
                        return false;
                    }
                    addNode(n, t);
                }
            }
            return true;
        }

        private void addNode(int parent, int t) {
            int n = size;
            size++;
            parents[n] = parent;
            transitions[n] = t;
            depths[n] = depths[parent] + 1;
            net.move(markings[parent], t, markings[n]);
            lift(n);
        }

        // A lifted count can bring further nodes above to be below; each round but the last lifts a place more.
        private void lift(int n) {
            boolean lifted = true;
            for (int round = 0; lifted && round <= net.places; round++) {
                lifted = false;
                int above = parents[n];
                for (int step = 0; step < depths[n]; step++) {
                    lifted |= liftOver(markings[above], markings[n]);
                    above = parents[above];
                }
            }
        }

        private boolean liftOver(int[] low, int[] high) {
            if (!isBelow(low, high)) {
                return false;
            }
            boolean lifted = false;
            for (int p = 0; p < net.places; p++) {
                if (high[p] != ENDLESS && low[p] < high[p]) {
                    high[p] = ENDLESS;
                    lifted = true;
                }
            }
            return lifted;
        }

        private void findPeaks() {
            peakCount = 0;
            for (int n = 0; n < size; n++) {
                if (isPeak(n)) {
                    peaks[peakCount] = n;
                    peakCount++;
                }
            }
        }

        private boolean isPeak(int n) {
            for (int other = 0; other < size; other++) {
                if (other != n && isBelow(markings[n], markings[other])) {
                    boolean laterTwin = other > n && isBelow(markings[other], markings[n]);
                    if (!laterTwin) {
                        return false;
                    }
                }
            }
            return true;
        }

        int stepTo(int n, int i) {
            int below = n;
            for (int depth = depths[n]; depth > i + 1; depth--) {
                below = parents[below];
            }
            return transitions[below];
        }

        int greatest(int p) {
            int most = 0;
            for (int n = 0; n < size; n++) {
                most = Math.max(most, markings[n][p]);
            }
            return most;
        }

        boolean reachesAbove(int[] marking) {
            for (int n = 0; n < size; n++) {
                if (isBelow(marking, markings[n])) {
                    return true;
                }
            }
            return false;
        }

        boolean everEnables(int t) {
            return reachesAbove(net.needs[t]);
        }

        int firstStuck() {
            for (int n = 0; n < size; n++) {
                if (net.isStuck(markings[n])) {
                    return n;
                }
            }
            return NONE;
        }
    }

    /** The markings from which the wanted one can be covered, made backwards from it. */
    private static final class Goals {
        final Net net;
        final int[][] markings;
        final int[] nexts = new int[MOST_GOALS];
        final int[] transitions = new int[MOST_GOALS];
        final int[] depths = new int[MOST_GOALS];
        final boolean[] givenUp = new boolean[MOST_GOALS];
        final int[] candidate;
        int size;
        boolean made;

        Goals(Net net) {
            this.net = net;
            markings = new int[MOST_GOALS][net.places];
            candidate = new int[net.places];
        }

        void gather(int[] wanted) {
            made = false;
            plant(wanted);
            boolean fits = true;
            for (int g = 0; fits && g < size && g < MOST_GOALS; g++) {
                fits = givenUp[g] || goBack(g);
            }
            made = fits;
        }

        private void plant(int[] wanted) {
            System.arraycopy(wanted, 0, markings[0], 0, net.places);
            nexts[0] = NONE;
            transitions[0] = NONE;
            depths[0] = 0;
            givenUp[0] = false;
            size = 1;
        }

        /** Makes the goals that come from g, all of them even if g is given up meanwhile: false when there is no room. */
        private boolean goBack(int g) {
            for (int t = 0; t < net.transitions; t++) {
                net.moveBack(markings[g], t, candidate);
                if (!isKnown(candidate)) {
                    if (size == MOST_GOALS) {
                        return false;
                    }
                    addCandidate(g, t);
                }
            }
            return true;
        }

        private boolean isKnown(int[] marking) {
            for (int g = 0; g < size; g++) {
                if (!givenUp[g] && isBelow(markings[g], marking)) {
                    return true;
                }
            }
            return false;
        }

        private void addCandidate(int next, int t) {
            for (int g = 0; g < size; g++) {
                if (isBelow(candidate, markings[g])) {
                    givenUp[g] = true;
                }
            }
            System.arraycopy(candidate, 0, markings[size], 0, net.places);
            nexts[size] = next;
            transitions[size] = t;
            depths[size] = depths[next] + 1;
            givenUp[size] = false;
            size++;
        }

        int keptCount() {
            int kept = 0;
            for (int g = 0; g < size; g++) {
                if (!givenUp[g]) {
                    kept++;
                }
            }
            return kept;
        }

        /** The number of the k-th goal that is not given up, or NONE. */
        int kept(int k) {
            int left = k;
            for (int g = 0; g < size; g++) {
                if (!givenUp[g]) {
                    if (left == 0) {
                        return g;
                    }
                    left--;
                }
            }
            return NONE;
        }

        /** The first goal, given up or not, that is below the marking, or NONE. */
        int firstBelow(int[] marking) {
            for (int g = 0; g < size; g++) {
                if (isBelow(markings[g], marking)) {
                    return g;
                }
            }
            return NONE;
        }

        int stepFrom(int g, int i) {
            int current = g;
            for (int step = 0; step < i; step++) {
                current = nexts[current];
            }
            return transitions[current];
        }
    }
}
