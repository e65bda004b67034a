import java.lang.reflect.InvocationTargetException;
import java.lang.reflect.Method;
import java.util.ArrayList;
import java.util.Arrays;
import java.util.HashMap;
import java.util.List;
import java.util.Map;
import java.util.function.Supplier;

/** The boundary cases: for each sentence of the document that names one, a test of its own. */
public final class OmegaNetsEdges {
    private static final String STATE = "throws IllegalStateException";
    private static final String INDEX = "throws IndexOutOfBoundsException";
    private static final String ARGUMENT = "throws IllegalArgumentException";
    private static final String UNSUPPORTED = "throws UnsupportedOperationException";
    private static final int OMEGA = -1;
    private static final int NONE = -2;
    private static final int LEAST = Integer.MIN_VALUE;
    private static final int MOST = Integer.MAX_VALUE;
    private static final int CALLS = 512;

    private static final Map<String, Method> FACE = new HashMap<>();

    private static String sentence = "";
    private static int sentences = 0;
    private static int checks = 0;
    private static int wrong = 0;

    static {
        for (Method method : OmegaNets.class.getDeclaredMethods()) {
            FACE.put(method.getName(), method);
        }
    }

    private static void sentence(String words) {
        sentence = words;
        sentences++;
    }

    private static void check(boolean right, String told) {
        checks++;
        if (!right) {
            wrong++;
            System.out.println("[" + sentence + "] " + told);
        }
    }

    /** An object with the calls that were made on it: no test may lean on an answer behind the 512th. */
    private static final class Run {
        final int places;
        final int transitions;
        final OmegaNets object;
        int calls = 0;

        Run(int places, int transitions) {
            this.places = places;
            this.transitions = transitions;
            object = new OmegaNets(places, transitions);
        }

        Object ask(String name, int... arguments) {
            calls++;
            if (calls > CALLS) {
                throw new AssertionError("a test makes more than " + CALLS + " calls: " + sentence);
            }
            try {
                return FACE.get(name).invoke(object, Arrays.stream(arguments).boxed().toArray());
            } catch (InvocationTargetException e) {
                return "throws " + e.getCause().getClass().getSimpleName();
            } catch (IllegalAccessException e) {
                throw new AssertionError(e);
            }
        }

        Run is(Object due, String name, int... arguments) {
            Object got = ask(name, arguments);
            String list = Arrays.toString(arguments);
            check(due.equals(got), "call " + calls + ", " + name + list + ": " + got + ", due is " + due);
            return this;
        }

        /** Makes calls whose answers are not looked at. */
        Run does(String name, int... arguments) {
            ask(name, arguments);
            return this;
        }

        Run arc(int t, int p, int need, int give) {
            return is(give - need, "arc", t, p, need, give);
        }

        Run starts(int... counts) {
            for (int p = 0; p < counts.length; p++) {
                does("start", p, counts[p]);
            }
            return this;
        }

        Run wants(int... counts) {
            for (int p = 0; p < counts.length; p++) {
                does("want", p, counts[p]);
            }
            return this;
        }

        Run marked(int node, int... counts) {
            for (int p = 0; p < counts.length; p++) {
                is(counts[p], "count", node, p);
            }
            return this;
        }

        Run aims(int k, int... counts) {
            for (int p = 0; p < counts.length; p++) {
                is(counts[p], "goal", k, p);
            }
            return this;
        }

        Run present(int... counts) {
            for (int p = 0; p < counts.length; p++) {
                is(counts[p], "at", p);
            }
            return this;
        }

        Run hasNoTree() {
            return is(STATE, "count", 0, 0).is(STATE, "node", 0, 0).is(STATE, "path", 0, 0).is(STATE, "bound", 0)
                    .is(STATE, "tops").is(STATE, "top", 0).is(STATE, "covered").is(STATE, "lives", 0).is(STATE, "dead");
        }

        Run hasNoGoals() {
            return is(STATE, "goal", 0, 0).is(STATE, "length").is(STATE, "way", 0);
        }
    }

    // ---- nets -------------------------------------------------------------------------------------------------

    /** t0 moves a token 0 -> 1, t1 brings it back and adds to place 2 without bound; t2 does nothing. Nine nodes. */
    private static Run wheel() {
        return new Run(3, 3).arc(0, 0, 1, 0).arc(0, 1, 0, 1).arc(1, 1, 1, 0).arc(1, 0, 0, 1).arc(1, 2, 0, 1).starts(1);
    }

    /**
     * Fuel in place 0 and a hand that is in place 1 or 2: t0 moves it 1 -> 2 and burns one, t1 moves it back; each
     * gives 9 to place 3. The tree is one chain: twice the fuel and one node more, and yet one if the hand is in 2.
     */
    private static Run clock(int fuel, int hand) {
        return new Run(4, 2).arc(0, 0, 1, 0).arc(0, 1, 1, 0).arc(0, 2, 0, 1).arc(0, 3, 0, 9)
                .arc(1, 2, 1, 0).arc(1, 1, 0, 1).arc(1, 3, 0, 9).starts(fuel).does("start", hand, 1);
    }

    /** Place 0 loses one token at a time. */
    private static Run drain(int tokens) {
        return new Run(1, 1).arc(0, 0, 1, 0).starts(tokens);
    }

    /** t0 moves a token 0 -> 1: the goals of n tokens in 1 are (0,n), (1,n-1) .. (n,0), none of which is given up. */
    private static Run pour(int start, int wanted) {
        return new Run(2, 1).arc(0, 0, 1, 0).arc(0, 1, 0, 1).starts(start).wants(0, wanted);
    }

    /** t0 gives one token: the goals of n tokens are n, n - 1 .. 0, and each gives up the one before it. */
    private static Run spring(int start, int wanted) {
        return new Run(1, 1).arc(0, 0, 0, 1).starts(start).wants(wanted);
    }

    // ---- states for the calls that are refused ------------------------------------------------------------------

    private static Run fresh() {
        return new Run(3, 3);
    }

    private static Run played() {
        return wheel().wants(0, 0, 3).does("explore").does("back").does("fire", 0).does("fire", 1).does("fire", 0);
    }

    private static Run withTreeAlone() {
        return wheel().does("fire", 0).does("explore").wants(0, 1, 7);
    }

    private static Run withGoalsAlone() {
        return wheel().wants(0, 0, 3).does("back").does("fire", 0);
    }

    private static Run withoutWay() {
        return wheel().wants(1, 1, 3).does("explore").does("back").does("fire", 0);
    }

    /** Its tree would have 201 nodes; its goals are there. */
    private static Run tooLargeForTree() {
        return clock(100, 1).wants(0, 0, 0, 9).does("back").does("fire", 0);
    }

    /** There would be 49 goals; its tree is there. */
    private static Run tooManyForGoals() {
        return pour(3, 48).does("explore").does("fire", 0);
    }

    // ---- that nothing was changed -------------------------------------------------------------------------------

    private static void addTree(Run r, List<Object> all) {
        Object tops = r.ask("tops");
        all.add(tops);
        if (!(tops instanceof Integer)) {
            return;
        }
        for (int n = 0; r.ask("count", n, 0) instanceof Integer; n++) {
            for (int p = 0; p < r.places; p++) {
                all.add(r.ask("count", n, p));
            }
            for (int what = 0; what < 3; what++) {
                all.add(r.ask("node", n, what));
            }
            for (int i = 0; r.ask("path", n, i) instanceof Integer step; i++) {
                all.add(step);
            }
        }
        for (int p = 0; p < r.places; p++) {
            all.add(r.ask("bound", p));
        }
        for (int k = 0; r.ask("top", k) instanceof Integer top; k++) {
            all.add(top);
        }
        for (int t = 0; t < r.transitions; t++) {
            all.add(r.ask("lives", t));
        }
        all.add(r.ask("covered"));
        all.add(r.ask("dead"));
    }

    private static void addGoals(Run r, List<Object> all) {
        for (int k = 0; r.ask("goal", k, 0) instanceof Integer; k++) {
            for (int p = 0; p < r.places; p++) {
                all.add(r.ask("goal", k, p));
            }
        }
        all.add(r.ask("length"));
        for (int i = 0; r.ask("way", i) instanceof Integer step; i++) {
            all.add(step);
        }
    }

    /** What each transition needs, by the least number with which it can be fired, and what it then leaves. */
    private static void addArcs(Run r, List<Object> all) {
        for (int t = 0; t < r.transitions; t++) {
            for (int p = 0; p < r.places; p++) {
                int n = -1;
                do {
                    n++;
                    r.ask("start", p, n);
                } while (n < 9 && r.ask("fire", t).equals(false));
                all.add(n);
                all.add(r.ask("at", p));
                r.ask("start", p, 100);
            }
        }
    }

    /** All that can be learnt of an object, by which it is used up. */
    private static List<Object> everything(Run r) {
        List<Object> all = new ArrayList<>();
        for (int p = 0; p < r.places; p++) {
            all.add(r.ask("at", p));
        }
        addTree(r, all);
        addGoals(r, all);
        all.add(r.ask("reset"));
        for (int p = 0; p < r.places; p++) {
            all.add(r.ask("start", p, 100));
            all.add(r.ask("want", p, 0));
        }
        addArcs(r, all);
        return all;
    }

    private static void refusedWithoutChange(Supplier<Run> state, String due, String name, int... arguments) {
        Run touched = state.get().is(due, name, arguments);
        List<Object> got = everything(touched);
        List<Object> asBefore = everything(state.get());
        check(got.equals(asBefore), "changed by " + name + Arrays.toString(arguments) + ": " + got + ", was " + asBefore);
    }

    // ---- What it is ---------------------------------------------------------------------------------------------

    private static void the512thCall() {
        sentence("What it is: an object is used for at most 512 calls");
        Run fired = new Run(1, 1).arc(0, 0, 0, 9).starts(100);
        while (fired.calls < CALLS - 1) {
            fired.is(true, "fire", 0);
        }
        fired.is(100 + 9 * (CALLS - 3), "at", 0);

        Run counted = new Run(6, 8);
        while (counted.calls < CALLS - 1) {
            counted.is(true, "fire", 7);
        }
        counted.is(CALLS - 1, "reset");

        Run explored = clock(99, 2);
        while (explored.calls < CALLS - 1) {
            explored.is(200, "explore");
        }
        explored.is(1, "path", 199, 198);

        Run gathered = pour(47, 47);
        while (gathered.calls < CALLS - 1) {
            gathered.is(48, "back");
        }
        gathered.is(0, "way", 46);

        Run refused = wheel();
        while (refused.calls < CALLS - 1) {
            refused.is(STATE, "dead");
        }
        refused.is(9, "explore");

        Run tooLarge = clock(100, 1);
        while (tooLarge.calls < CALLS - 2) {
            tooLarge.is(STATE, "explore");
        }
        tooLarge.is(100, "start", 0, 99).is(199, "explore");

        Run tooMany = pour(100, 48);
        while (tooMany.calls < CALLS - 2) {
            tooMany.is(STATE, "back");
        }
        tooMany.is(48, "want", 1, 47).is(48, "back");
    }

    // ---- Terms --------------------------------------------------------------------------------------------------

    private static void placesByNumber() {
        sentence("Terms: there are P places, 0 .. P - 1");
        for (int places = 1; places <= 6; places++) {
            for (int p : new int[] {0, places - 1}) {
                Run r = new Run(places, 1).does("explore").does("back");
                r.is(0, "at", p).is(0, "count", 0, p).is(0, "bound", p).is(0, "goal", 0, p);
                r.is(0, "want", p, 1).is(1, "want", p, 1).is(0, "start", p, 1).is(1, "at", p).is(0, "arc", 0, p, 1, 1);
            }
            for (int p : new int[] {LEAST, -places, -1, places, places + 1, MOST}) {
                Run r = new Run(places, 1).does("explore").does("back");
                r.is(INDEX, "at", p).is(INDEX, "count", 0, p).is(INDEX, "bound", p).is(INDEX, "goal", 0, p);
                r.is(INDEX, "want", p, 1).is(INDEX, "start", p, 1).is(INDEX, "arc", 0, p, 1, 1);
            }
        }
    }

    private static void transitionsByNumber() {
        sentence("Terms: there are T transitions, 0 .. T - 1");
        for (int transitions = 1; transitions <= 8; transitions++) {
            for (int t : new int[] {0, transitions - 1}) {
                new Run(1, transitions).is(transitions + 1, "explore").is(true, "lives", t).is(true, "fire", t)
                        .is(t, "node", t + 1, 1).arc(t, 0, 1, 0).is(false, "fire", t)
                        .is(transitions, "explore").is(false, "lives", t);
            }
            for (int t : new int[] {LEAST, -transitions, -1, transitions, transitions + 1, MOST}) {
                new Run(1, transitions).is(transitions + 1, "explore").is(INDEX, "lives", t).is(INDEX, "fire", t)
                        .is(INDEX, "arc", t, 0, 1, 1);
            }
        }
    }

    private static void nothingNeededAtFirst() {
        sentence("Terms: each transition needs and gives 0 to 9 tokens of each place, at first 0");
        Run r = new Run(6, 8);
        for (int t = 0; t < 8; t++) {
            r.is(true, "fire", t).present(0, 0, 0, 0, 0, 0);
        }
        r.is(9, "explore").is(NONE, "dead");
        for (int n = 1; n < 9; n++) {
            r.marked(n, 0, 0, 0, 0, 0, 0).is(1, "node", n, 2);
        }
    }

    private static void omegaIsMoreThanAnyNumber() {
        sentence("Terms: OMEGA is more than any number");
        Run r = new Run(1, 1).arc(0, 0, 0, 1).starts(100).is(3, "explore");
        r.marked(0, 100).marked(1, OMEGA).marked(2, OMEGA).is(OMEGA, "bound", 0);
        r.is(1, "tops").is(1, "top", 0).wants(100).is(true, "covered");
        Run needy = new Run(1, 2).arc(0, 0, 0, 1).arc(1, 0, 9, 9).is(4, "explore");
        needy.is(true, "lives", 1).is(NONE, "dead").is(1, "node", 3, 0).is(1, "node", 3, 1);
    }

    private static void omegaStaysItself() {
        sentence("Terms: OMEGA stays itself whatever is taken away or given");
        Run r = new Run(2, 3).arc(0, 0, 0, 1).arc(1, 0, 9, 0).arc(1, 1, 0, 0).arc(2, 0, 1, 9).is(5, "explore");
        r.marked(0, 0, 0).marked(1, OMEGA, 0).marked(2, OMEGA, 0).marked(3, OMEGA, 0).marked(4, OMEGA, 0);
        r.is(1, "node", 2, 2).is(1, "node", 3, 2).is(1, "node", 4, 2).is(OMEGA, "bound", 0).is(0, "bound", 1);
    }

    private static void enabledUpToTheLastToken() {
        sentence("Terms: a transition is enabled when no count is less than what it needs there");
        for (int need = 1; need <= 9; need++) {
            for (int p = 0; p < 6; p++) {
                Run r = new Run(6, 8);
                int[] enough = new int[6];
                for (int other = 0; other < 6; other++) {
                    r.arc(7, other, need, 0);
                    enough[other] = need;
                }
                r.starts(enough).is(true, "fire", 7).present(0, 0, 0, 0, 0, 0).is(false, "fire", 7);
                enough[p] = need - 1;
                r.starts(enough).is(false, "fire", 7).present(enough).is(0, "reset").present(enough);
            }
        }
    }

    private static void neededBeforeGiven() {
        sentence("Terms: firing takes away what it needs, and adds what it gives");
        Run r = new Run(1, 1).arc(0, 0, 9, 9).starts(8).is(false, "fire", 0).is(1, "explore").is(0, "dead");
        r.starts(9).is(true, "fire", 0).is(9, "at", 0).is(2, "explore").marked(1, 9).is(1, "node", 1, 2).is(NONE, "dead");
    }

    private static void belowItself() {
        sentence("Terms: one is below itself");
        Run r = drain(0).does("explore").is(true, "covered").wants(1).is(false, "covered");
        r.starts(1).is(2, "explore").is(true, "covered").wants(2).is(false, "covered");
        r.wants(1).is(1, "back").is(0, "length").wants(2).is(1, "back").is(UNSUPPORTED, "length");
        for (int p = 0; p < 6; p++) {
            Run six = new Run(6, 1).starts(5, 5, 5, 5, 5, 5).wants(5, 5, 5, 5, 5, 5).does("explore").does("back");
            six.is(true, "covered").is(0, "length").does("want", p, 6).is(false, "covered");
            six.does("back").is(UNSUPPORTED, "length").does("want", p, 4).is(true, "covered").does("back").is(0, "length");
        }
    }

    private static void allZeroAtFirst() {
        sentence("Terms: the start, the wanted marking and the present one are all 0 at first");
        for (int p = 0; p < 6; p++) {
            new Run(6, 8).is(0, "at", p).is(0, "want", p, 100).is(0, "start", p, 100);
        }
        new Run(6, 8).does("explore").does("back").marked(0, 0, 0, 0, 0, 0, 0).aims(0, 0, 0, 0, 0, 0, 0);
    }

    private static void node0IsTheStart() {
        sentence("Terms: node 0 has the start");
        Run r = new Run(2, 1).arc(0, 0, 1, 0).starts(3, 100).does("fire", 0).present(2, 100);
        r.is(4, "explore").marked(0, 3, 100).marked(3, 0, 100).present(2, 100);
    }

    private static void leaves() {
        sentence("Terms: a node whose marking is that of a node above it is a leaf, and nothing comes of it");
        Run circle = new Run(2, 2).arc(0, 0, 1, 0).arc(0, 1, 0, 1).arc(1, 1, 1, 0).arc(1, 0, 0, 1).starts(1);
        circle.is(3, "explore").is(0, "node", 0, 2).is(0, "node", 1, 2).is(1, "node", 2, 2).marked(2, 1, 0);
        Run beside = new Run(2, 2).arc(0, 0, 1, 0).arc(1, 1, 1, 0).starts(1, 1);
        beside.is(5, "explore").marked(3, 0, 0).marked(4, 0, 0).is(0, "node", 3, 2).is(0, "node", 4, 2);
        Run ends = drain(1).is(2, "explore").is(0, "node", 0, 2).is(0, "node", 1, 2);
        ends.starts(0).is(1, "explore").is(0, "node", 0, 2);
        sentence("Terms: the same marking beside it brings forth its own nodes");
        Run both = new Run(3, 3).arc(0, 0, 1, 0).arc(1, 1, 1, 0).arc(2, 2, 1, 0).starts(1, 1, 1).is(16, "explore");
        both.is(1, "node", 4, 0).is(2, "node", 6, 0).marked(4, 0, 0, 1).marked(6, 0, 0, 1);
        both.is(4, "node", 10, 0).is(6, "node", 12, 0);
    }

    private static void noOmegaWithoutLess() {
        sentence("Terms: a node above has a marking that is below its, and less at a count");
        new Run(2, 1).arc(0, 0, 1, 1).starts(5, 5).is(2, "explore").marked(1, 5, 5).is(1, "node", 1, 2);
        new Run(2, 1).arc(0, 0, 0, 1).starts(5, 5).is(3, "explore").marked(1, OMEGA, 5).is(0, "node", 1, 2)
                .marked(2, OMEGA, 5).is(1, "node", 2, 2);
        new Run(2, 1).arc(0, 0, 0, 9).arc(0, 1, 1, 0).starts(5, 1).is(2, "explore").marked(1, 14, 0).is(1, "dead");
        new Run(2, 1).arc(0, 0, 0, 9).arc(0, 1, 0, 9).starts(5, 1).is(3, "explore").marked(1, OMEGA, OMEGA);
        sentence("Terms: a node above it, not one beside it");
        new Run(2, 2).arc(0, 0, 1, 0).arc(1, 0, 1, 0).arc(1, 1, 0, 1).starts(1).is(3, "explore")
                .marked(1, 0, 0).marked(2, 0, 1);
        sentence("Terms: a node above it, though it is not the next one");
        wheel().is(9, "explore").marked(1, 0, 1, 0).marked(3, 1, 0, OMEGA);
    }

    private static void omegaAsLongAs() {
        sentence("Terms: as long as a node above the new one ... that count of the new one becomes OMEGA");
        Run near = new Run(3, 3).arc(0, 0, 3, 0).arc(0, 1, 0, 1).arc(1, 0, 0, 1).arc(1, 1, 1, 1).arc(1, 2, 0, 1)
                .arc(2, 2, 9, 0).starts(3).does("explore");
        near.marked(0, 3, 0, 0).marked(1, 0, 1, 0).is(1, "node", 2, 1).marked(2, OMEGA, OMEGA, OMEGA);
        Run far = new Run(2, 2).arc(0, 1, 1, 0).arc(0, 0, 0, 3).arc(1, 0, 2, 0).arc(1, 1, 0, 1).starts(0, 1).does("explore");
        far.marked(0, 0, 1).marked(1, 3, 0).marked(2, OMEGA, OMEGA);
        // The same behind a node 0 that is never below; its token in place 2 is gone at once.
        Run between = new Run(3, 3).arc(0, 1, 1, 0).arc(0, 0, 0, 3).arc(1, 0, 2, 0).arc(1, 1, 0, 1)
                .arc(2, 2, 1, 0).arc(2, 1, 0, 1).starts(0, 0, 1).does("explore");
        between.marked(0, 0, 0, 1).marked(1, 0, 1, 0).marked(2, 3, 0, 0).marked(3, OMEGA, OMEGA, 0);
        sentence("Terms: as long as: one count after the other, in whatever order the nodes above stand");
        for (int[] order : new int[][] {{0, 1, 2, 3, 4, 5}, {5, 4, 3, 2, 1, 0}, {3, 0, 5, 1, 4, 2}, {2, 4, 0, 5, 3, 1}}) {
            risesOneByOne(order);
        }
    }

    /**
     * Six markings in a chain, the last of which leads to one token everywhere. Each has none in its own place and (but
     * for that of place 0) two in the place before, so that it is below the new one only when that has become OMEGA.
     */
    private static void risesOneByOne(int[] order) {
        int[][] markings = new int[7][];
        for (int n = 0; n < 7; n++) {
            markings[n] = new int[] {1, 1, 1, 1, 1, 1};
            if (n < 6) {
                markings[n][order[n]] = 0;
                markings[n][Math.max(0, order[n] - 1)] += order[n] > 0 ? 1 : 0;
            }
        }
        Run r = new Run(6, 6).starts(markings[0]);
        for (int t = 0; t < 6; t++) {
            for (int p = 0; p < 6; p++) {
                r.arc(t, p, markings[t][p], markings[t + 1][p]);
            }
        }
        r.is(13, "explore").marked(6, OMEGA, OMEGA, OMEGA, OMEGA, OMEGA, OMEGA);
        for (int n = 0; n < 6; n++) {
            r.marked(n, markings[n]);
        }
    }

    private static void tree199to201() {
        sentence("Terms: a tree has at most 200 nodes");
        clock(99, 1).is(199, "explore").is(199, "explore");
        clock(99, 2).is(200, "explore").is(200, "explore");
        clock(100, 1).is(STATE, "explore").hasNoTree().is(STATE, "explore").hasNoTree();
        clock(100, 2).is(STATE, "explore").hasNoTree();
        // 101 markings in a chain; t1 comes back at once, to a leaf, from each with as many tokens as it needs.
        Run leafy = drainWithLeaves(2).is(200, "explore").is(0, "node", 0, 2).is(1, "node", 2, 2);
        leafy.arc(1, 0, 1, 1).is(STATE, "explore").hasNoTree();
        leafy.arc(1, 0, 3, 3).is(199, "explore");
        // Six places that grow without bound: 200 are reached with nodes to come from many that wait.
        Run wide = new Run(6, 8);
        for (int p = 0; p < 6; p++) {
            wide.arc(p, p, 0, 1);
        }
        wide.is(STATE, "explore").hasNoTree();
    }

    private static Run drainWithLeaves(int need) {
        return new Run(1, 2).arc(0, 0, 1, 0).arc(1, 0, need, need).starts(100);
    }

    private static void topOfTwins() {
        sentence("Terms: a node is a top ... but for nodes with the same marking and greater numbers");
        new Run(1, 8).is(9, "explore").is(1, "tops").is(0, "top", 0).is(INDEX, "top", 1);
        wheel().does("explore").is(2, "tops").is(3, "top", 0).is(5, "top", 1).is(INDEX, "top", 2);
        // (1,1) leads to (0,2) by t0 and by t1, which are twins that no other is above; (0,2) is not below (1,1).
        Run twins = new Run(2, 2).arc(0, 0, 1, 0).arc(0, 1, 0, 1).arc(1, 0, 1, 0).arc(1, 1, 0, 1).starts(1, 1);
        twins.is(3, "explore").marked(1, 0, 2).marked(2, 0, 2);
        twins.is(2, "tops").is(0, "top", 0).is(1, "top", 1).is(INDEX, "top", 2);
        // A twin of the highest that comes first, and one that is less in one place alone.
        drain(2).is(3, "explore").is(1, "tops").is(0, "top", 0);
        new Run(2, 1).arc(0, 1, 1, 0).starts(7, 1).is(2, "explore").is(1, "tops").is(0, "top", 0);
    }

    private static void goal0IsTheWanted() {
        sentence("Terms: goal 0 is the wanted marking");
        Run r = new Run(6, 8).wants(100, 0, 1, 2, 99, 100).is(1, "back").aims(0, 100, 0, 1, 2, 99, 100);
        r.starts(100, 0, 1, 2, 99, 100).is(1, "back").is(0, "length");
    }

    private static void givenUpAreLeftOut() {
        sentence("Terms: goals are worked off by their numbers, those that are given up by then left out");
        // 10, then by t0 9, by t1 1, which gives up 9: so 0 comes of 1 by t0, and not of 9 by t1.
        Run r = new Run(1, 2).arc(0, 0, 0, 1).arc(1, 0, 0, 9).wants(10);
        r.is(1, "back").aims(0, 0).is(2, "length").is(0, "way", 0).is(1, "way", 1).is(INDEX, "way", 2);
    }

    private static void whatIsNeededIsTheLeast() {
        sentence("Terms: what is needed there, or, if that is more, the goal's count less what t gives plus what it needs");
        // With 4 needed and 9 given, one before n tokens has n - 5, but at least 4. The rows: wanted, start, how long the way is.
        int[][] cases = {{8, 4, 1}, {8, 7, 1}, {8, 8, 0}, {9, 4, 1}, {10, 5, 1}, {10, 4, 2}, {14, 9, 1}, {14, 8, 2}, {14, 4, 2}};
        for (int[] c : cases) {
            new Run(1, 1).arc(0, 0, 4, 9).wants(c[0]).starts(c[1]).does("back").is(c[2], "length");
            new Run(1, 1).arc(0, 0, 4, 9).wants(c[0]).starts(3).does("back").is(UNSUPPORTED, "length");
        }
        // Two places, so that the goal before it is kept beside it.
        new Run(2, 1).arc(0, 0, 4, 9).arc(0, 1, 1, 0).wants(8).is(2, "back").aims(0, 8, 0).aims(1, 4, 1).is(INDEX, "goal", 2, 0);
        new Run(2, 1).arc(0, 0, 4, 9).arc(0, 1, 1, 0).wants(9).is(2, "back").aims(1, 4, 1);
        new Run(2, 1).arc(0, 0, 4, 9).arc(0, 1, 1, 0).wants(10).is(3, "back").aims(1, 5, 1).aims(2, 4, 2);
    }

    private static void knownGoalsAreNotMade() {
        sentence("Terms: when no goal that is not given up is below g, g is the next goal");
        // The same marking again, and one that is greater: neither is a goal.
        new Run(1, 1).arc(0, 0, 0, 0).wants(7).is(1, "back").aims(0, 7).is(INDEX, "goal", 1, 0);
        new Run(1, 1).arc(0, 0, 1, 0).wants(7).is(1, "back").aims(0, 7);
        new Run(1, 1).arc(0, 0, 0, 7).wants(7).is(1, "back").aims(0, 0);
        new Run(1, 1).arc(0, 0, 7, 8).wants(7).is(1, "back").aims(0, 7);
        new Run(2, 1).arc(0, 0, 0, 1).arc(0, 1, 1, 0).wants(1).is(2, "back").aims(0, 1, 0).aims(1, 0, 1);
    }

    private static void allThatItIsBelowAreGivenUp() {
        sentence("Terms: and all before it that g is below are given up");
        // (2,2), by t0 (1,5), by t1 (5,1), then (0,8) and (8,0): none is below another.
        Run r = new Run(2, 3).arc(0, 0, 0, 1).arc(0, 1, 3, 0).arc(1, 0, 3, 0).arc(1, 1, 0, 1).wants(2, 2);
        r.is(5, "back").aims(0, 2, 2).aims(1, 1, 5).aims(2, 5, 1).aims(3, 0, 8).aims(4, 8, 0);
        // With (1,1) by t2 the three before it are given up; (0,4) and (4,0) come of it.
        r.arc(2, 0, 1, 9).arc(2, 1, 1, 9).is(3, "back").aims(0, 1, 1).aims(1, 0, 4).aims(2, 4, 0).is(INDEX, "goal", 3, 0);
        // (5,1) by t2 is one that is there; (4,1) gives up (5,1) alone.
        r.arc(2, 0, 5, 8).is(5, "back").aims(0, 2, 2).aims(1, 1, 5).aims(2, 5, 1).aims(3, 0, 8).aims(4, 8, 0);
        r.arc(2, 0, 4, 9).is(5, "back").aims(0, 2, 2).aims(1, 1, 5).aims(2, 4, 1).aims(3, 0, 8).aims(4, 7, 0);
    }

    private static void goals47to49() {
        sentence("Terms: at most 48 goals are made");
        pour(0, 46).is(47, "back").aims(46, 46, 0).is(INDEX, "goal", 47, 0);
        pour(0, 47).is(48, "back").aims(0, 0, 47).aims(47, 47, 0).is(INDEX, "goal", 48, 0);
        pour(0, 48).is(STATE, "back").hasNoGoals().is(STATE, "back").hasNoGoals();
        pour(0, 100).is(STATE, "back").hasNoGoals();
        sentence("Terms: those that are given up have been made too");
        spring(0, 46).is(1, "back").aims(0, 0).is(46, "length");
        spring(0, 47).is(1, "back").aims(0, 0).is(INDEX, "goal", 1, 0).is(47, "length");
        spring(0, 48).is(STATE, "back").hasNoGoals();
        sentence("Terms: with 48 made, those that are known are no hindrance");
        new Run(2, 8).arc(0, 0, 1, 0).arc(0, 1, 0, 1).arc(7, 0, 9, 0).wants(0, 47).is(48, "back").is(48, "back");
    }

    private static void coveredByEqualStart() {
        sentence("Terms: the wanted marking can be covered when some goal is below the start");
        pour(47, 47).does("back").is(47, "length");
        pour(46, 47).does("back").is(UNSUPPORTED, "length").is(UNSUPPORTED, "way", 0);
        pour(46, 47).does("start", 1, 1).does("back").is(46, "length");
        pour(0, 0).does("back").is(0, "length");
    }

    private static void firstGoalBelowTheStart() {
        sentence("Terms: the first goal (by number, given up or not) that is below it");
        for (int start = 0; start <= 9; start++) {
            spring(start, 9).is(1, "back").aims(0, 0).is(9 - start, "length").is(INDEX, "way", 9 - start);
        }
        spring(10, 9).is(1, "back").is(0, "length").is(INDEX, "way", 0);
        // Two ways; the goal that was made first begins it, though one that gives it up is below the start as well.
        Run r = new Run(1, 2).arc(0, 0, 0, 1).arc(1, 0, 0, 9).wants(10);
        r.starts(9).does("back").is(1, "length").is(0, "way", 0);
        r.starts(8).does("back").is(1, "length").is(1, "way", 0);
    }

    private static void fullRefusals() {
        sentence("Terms: a call that throws changes nothing: explore() and back() beyond their limits");
        refusedWithoutChange(OmegaNetsEdges::tooLargeForTree, STATE, "explore");
        refusedWithoutChange(OmegaNetsEdges::tooManyForGoals, STATE, "back");
    }

    private static void dropsBoth(String name, int... arguments) {
        Run r = played().is(2, "tops").is(6, "length");
        r.does(name, arguments).hasNoTree().hasNoGoals();
        r.does("explore").does("tops").hasNoGoals();
        r.does("back").does(name, arguments).hasNoTree().hasNoGoals();
        r.does("back").hasNoTree();
    }

    private static void netChanges() {
        sentence("Terms: the net is changed by arc() and start(): then there is no tree, and there are no goals");
        dropsBoth("arc", 2, 2, 0, 0);
        dropsBoth("arc", 0, 0, 1, 0);
        dropsBoth("arc", 1, 2, 9, 9);
        dropsBoth("start", 0, 1);
        dropsBoth("start", 0, 100);
        dropsBoth("start", 2, 0);
    }

    private static void wantedChanges() {
        sentence("Terms: after want() there are no goals");
        for (int n : new int[] {0, 3, 100}) {
            played().does("want", 2, n).hasNoGoals().is(2, "tops").marked(3, 1, 0, OMEGA).is(true, "covered")
                    .does("explore").hasNoGoals();
        }
        played().does("want", 0, 0).hasNoGoals().is(3, "back").is(6, "length");
    }

    private static void noTreeAtFirst() {
        sentence("Terms: when there is no tree, when there are no goals: at first");
        fresh().hasNoTree().hasNoGoals().does("fire", 0).does("reset").does("want", 0, 0).hasNoTree().hasNoGoals();
        fresh().does("explore").hasNoGoals().is(1, "tops");
        fresh().does("back").hasNoTree().is(0, "length");
    }

    private static void otherCallsDropNothing() {
        sentence("Terms: no other call changes the net");
        Run r = played();
        r.is(false, "fire", 0).is(true, "fire", 1).does("reset").does("at", 0).is(2, "tops").is(6, "length");
        r.is(9, "explore").is(6, "length").is(3, "back").is(2, "tops").does("dead").does("bound", 0).does("covered");
        r.is(2, "tops").is(6, "length");
    }

    private static void theLastOneCounts() {
        sentence("Terms: it is the last explore() or back() that counts since then");
        Run r = clock(99, 1).is(199, "explore").is(98, "count", 1, 0).starts(100).is(STATE, "explore").hasNoTree();
        r.starts(2).is(5, "explore").is(1, "count", 1, 0).is(INDEX, "count", 5, 0).is(4, "dead").is(2, "bound", 0);
        r.is(INDEX, "path", 4, 4).is(5, "tops").is(INDEX, "top", 5).is(5, "explore").is(4, "dead");
        Run b = pour(3, 47).is(48, "back").is(UNSUPPORTED, "length").wants(0, 48).is(STATE, "back").hasNoGoals();
        b.wants(0, 2).is(3, "back").is(2, "length").aims(2, 2, 0).is(INDEX, "goal", 3, 0);
        b.wants(0, 0).is(1, "back").is(0, "length").is(INDEX, "goal", 1, 0).is(INDEX, "way", 0);
    }

    // ---- the first that is so, and nothing changed: all the wrong calls in all kinds of states ----------------------

    /** What a call on one of the wheel's states is refused with by the document, or null. */
    private static final class Rules {
        final boolean tree;
        final boolean goals;
        final boolean way;

        Rules(boolean tree, boolean goals, boolean way) {
            this.tree = tree;
            this.goals = goals;
            this.way = way;
        }

        private static final int[] DEPTHS = {0, 1, 1, 2, 2, 3, 3, 4, 4};

        static boolean out(int i, int size) {
            return i < 0 || i >= size;
        }

        String refusal(String name, int... a) {
            switch (name) {
                case "arc":
                    return out(a[0], 3) || out(a[1], 3) ? INDEX : out(a[2], 10) || out(a[3], 10) ? ARGUMENT : null;
                case "start":
                case "want":
                    return out(a[0], 3) ? INDEX : out(a[1], 101) ? ARGUMENT : null;
                case "fire":
                case "at":
                    return out(a[0], 3) ? INDEX : null;
                case "goal":
                    return !goals ? STATE : out(a[0], 3) || out(a[1], 3) ? INDEX : null;
                case "length":
                    return !goals ? STATE : !way ? UNSUPPORTED : null;
                case "way":
                    return !goals ? STATE : !way ? UNSUPPORTED : out(a[0], 6) ? INDEX : null;
                default:
                    return !tree ? STATE : inTree(name, a);
            }
        }

        private static String inTree(String name, int... a) {
            switch (name) {
                case "count":
                    return out(a[0], 9) || out(a[1], 3) ? INDEX : null;
                case "node":
                    return out(a[0], 9) ? INDEX : out(a[1], 3) ? ARGUMENT : null;
                case "path":
                    return out(a[0], 9) || out(a[1], DEPTHS[a[0]]) ? INDEX : null;
                case "bound":
                case "lives":
                    return out(a[0], 3) ? INDEX : null;
                case "top":
                    return out(a[0], 2) ? INDEX : null;
                default:
                    return null;
            }
        }
    }

    private static final int[] SMALL = {LEAST, -1, 0, 2, 3, MOST};
    private static final int[] DIGIT = {LEAST, -1, 0, 9, 10, MOST};
    private static final int[] HUNDRED = {LEAST, -1, 0, 100, 101, MOST};
    private static final int[] NODE = {LEAST, -1, 0, 2, 8, 9, 200, MOST};
    private static final int[] STEP = {LEAST, -1, 0, 1, 3, 4, MOST};
    private static final int[] ORDER = {LEAST, -1, 0, 1, 2, 3, 4, MOST};
    private static final int[] FIRING = {LEAST, -1, 0, 5, 6, MOST};

    private static final Map<String, int[][]> VALUES = Map.ofEntries(
            Map.entry("arc", new int[][] {SMALL, SMALL, DIGIT, DIGIT}),
            Map.entry("start", new int[][] {SMALL, HUNDRED}),
            Map.entry("want", new int[][] {SMALL, HUNDRED}),
            Map.entry("fire", new int[][] {SMALL}),
            Map.entry("at", new int[][] {SMALL}),
            Map.entry("count", new int[][] {NODE, SMALL}),
            Map.entry("node", new int[][] {NODE, SMALL}),
            Map.entry("path", new int[][] {NODE, STEP}),
            Map.entry("bound", new int[][] {SMALL}),
            Map.entry("tops", new int[][] {}),
            Map.entry("top", new int[][] {ORDER}),
            Map.entry("covered", new int[][] {}),
            Map.entry("lives", new int[][] {SMALL}),
            Map.entry("dead", new int[][] {}),
            Map.entry("goal", new int[][] {ORDER, SMALL}),
            Map.entry("length", new int[][] {}),
            Map.entry("way", new int[][] {FIRING}));

    private static List<int[]> combinations(int[][] values) {
        List<int[]> all = new ArrayList<>();
        all.add(new int[0]);
        for (int[] row : values) {
            List<int[]> longer = new ArrayList<>();
            for (int[] begun : all) {
                for (int value : row) {
                    int[] next = Arrays.copyOf(begun, begun.length + 1);
                    next[begun.length] = value;
                    longer.add(next);
                }
            }
            all = longer;
        }
        return all;
    }

    private static void wrongCalls(String told, Supplier<Run> state, Rules rules) {
        List<Object> before = everything(state.get());
        for (String name : VALUES.keySet()) {
            sentence(name + "() on an object " + told
                    + ": methods throw what they list, the first that is so, and a call that throws changes nothing");
            for (int[] arguments : combinations(VALUES.get(name))) {
                String due = rules.refusal(name, arguments);
                String list = Arrays.toString(arguments);
                Run r = state.get();
                Object got = r.ask(name, arguments);
                if (due == null) {
                    check(!(got instanceof String), list + ": " + got + ", due is an answer");
                } else {
                    check(due.equals(got), list + ": " + got + ", due is " + due);
                    check(everything(r).equals(before), list + " changed something");
                }
            }
        }
    }

    private static void allWrongCalls() {
        wrongCalls("that is new", OmegaNetsEdges::fresh, new Rules(false, false, false));
        wrongCalls("with a tree and goals", OmegaNetsEdges::played, new Rules(true, true, true));
        wrongCalls("with a tree alone", OmegaNetsEdges::withTreeAlone, new Rules(true, false, false));
        wrongCalls("with goals alone", OmegaNetsEdges::withGoalsAlone, new Rules(false, true, true));
        wrongCalls("with goals and no way", OmegaNetsEdges::withoutWay, new Rules(true, true, false));
    }

    // ---- Promises 1 to 7 ----------------------------------------------------------------------------------------

    private static void sizes() {
        sentence("Promise 1: P is places, but at least 1 and at most 6; T is transitions, but at least 1 and at most 8");
        int[] asked = {LEAST, -6, -1, 0, 1, 2, 3, 4, 5, 6, 7, 8, 9, 10, 100, MOST};
        for (int places : asked) {
            for (int transitions : asked) {
                int p = places < 1 ? 1 : places > 6 ? 6 : places;
                int t = transitions < 1 ? 1 : transitions > 8 ? 8 : transitions;
                Run r = new Run(places, transitions);
                r.is(0, "at", 0).is(0, "at", p - 1).is(INDEX, "at", p).is(INDEX, "at", -1);
                r.is(true, "fire", 0).is(true, "fire", t - 1).is(INDEX, "fire", t).is(INDEX, "fire", -1);
                r.is(t + 1, "explore").is(1, "back").is(0, "goal", 0, p - 1).is(INDEX, "goal", 0, p);
                r.is(INDEX, "bound", p).is(INDEX, "lives", t).is(true, "lives", t - 1);
            }
        }
    }

    private static void arcNumbers() {
        sentence("Promise 2: need or give is not 0 .. 9");
        for (int need = 0; need <= 9; need++) {
            Run r = new Run(1, 1);
            for (int give = 0; give <= 9; give++) {
                r.is(give - need, "arc", 0, 0, need, give).starts(need).is(true, "fire", 0).present(give);
                if (need > 0) {
                    r.starts(need - 1).is(false, "fire", 0).present(need - 1);
                }
            }
        }
        for (int n : new int[] {LEAST, -10, -9, -1, 10, 11, 100, MOST}) {
            new Run(2, 2).arc(1, 1, 3, 4).is(ARGUMENT, "arc", 1, 1, n, 5).is(ARGUMENT, "arc", 1, 1, 5, n)
                    .is(ARGUMENT, "arc", 1, 1, n, n).starts(0, 3).is(true, "fire", 1).present(0, 4)
                    .starts(0, 2).is(false, "fire", 1);
        }
        sentence("Promise 2: what was set before is replaced, and that of no other");
        Run r = new Run(2, 2).arc(0, 0, 9, 0).arc(0, 0, 0, 9).arc(0, 1, 1, 2).starts(0, 1);
        r.is(true, "fire", 1).present(0, 1).is(true, "fire", 0).present(9, 2);
    }

    private static void arcLeavesThePresent() {
        sentence("Promise 2: neither the present marking nor the firings are changed");
        new Run(1, 1).arc(0, 0, 0, 9).does("fire", 0).does("fire", 0).arc(0, 0, 9, 0).present(18)
                .is(true, "fire", 0).is(true, "fire", 0).is(false, "fire", 0).is(4, "reset").present(0);
    }

    private static void startNumbers() {
        sentence("Promise 3: n is not 0 .. 100");
        for (int p : new int[] {0, 5}) {
            Run r = new Run(6, 1).is(0, "start", p, 0).is(0, "start", p, 1).is(1, "start", p, 99).is(99, "start", p, 100);
            r.is(100, "at", p).is(ARGUMENT, "start", p, 101).is(ARGUMENT, "start", p, -1).is(ARGUMENT, "start", p, LEAST);
            r.is(ARGUMENT, "start", p, MOST).is(100, "at", p).is(100, "start", p, 0).is(0, "at", p).is(0, "start", p, 0);
        }
        sentence("Promise 3: the present marking becomes the start");
        Run r = new Run(3, 1).arc(0, 0, 1, 0).arc(0, 1, 0, 9).starts(2, 100, 4).does("fire", 0).does("fire", 0);
        r.present(0, 118, 4).is(4, "start", 2, 4).present(2, 100, 4).is(0, "reset");
        r.does("fire", 0).is(4, "start", 2, 0).present(2, 100, 0).is(0, "reset").is(2, "start", 0, 0).present(0, 100, 0);
        sentence("Promise 3: a start that is refused leaves the present marking");
        Run refused = new Run(1, 1).arc(0, 0, 0, 9).does("fire", 0).is(ARGUMENT, "start", 0, 101).is(INDEX, "start", 1, 0);
        refused.present(9).is(1, "reset");
    }

    private static void wantNumbers() {
        sentence("Promise 4: n is not 0 .. 100");
        for (int p : new int[] {0, 5}) {
            Run r = new Run(6, 1).is(0, "want", p, 0).is(0, "want", p, 1).is(1, "want", p, 99).is(99, "want", p, 100);
            r.is(ARGUMENT, "want", p, 101).is(ARGUMENT, "want", p, -1).is(ARGUMENT, "want", p, LEAST);
            r.is(ARGUMENT, "want", p, MOST).is(1, "back").is(100, "goal", 0, p).is(100, "want", p, 0).is(0, "want", p, 0);
        }
        sentence("Promise 4: neither the present marking, nor the start, nor the firings are changed");
        new Run(1, 1).arc(0, 0, 0, 9).starts(3).does("fire", 0).wants(7).present(12).is(1, "reset").present(3)
                .is(3, "start", 0, 0).is(7, "want", 0, 0);
    }

    private static void firing() {
        sentence("Promise 5: if it is enabled: whether it was");
        new Run(2, 1).arc(0, 0, 1, 0).arc(0, 1, 1, 0).starts(1).is(false, "fire", 0).present(1, 0);
        new Run(2, 1).arc(0, 0, 1, 0).arc(0, 1, 1, 0).starts(0, 1).is(false, "fire", 0).present(0, 1);
        drain(1).is(true, "fire", 0).present(0).is(false, "fire", 0).present(0).is(1, "reset").present(1);
        sentence("Promise 5: the present counts go beyond what a start can have");
        new Run(1, 1).arc(0, 0, 0, 9).starts(100).is(true, "fire", 0).present(109).is(true, "fire", 0).present(118);
        sentence("Promise 5: no such transition");
        for (int t : new int[] {LEAST, -1, 8, 9, MOST}) {
            new Run(1, 8).is(INDEX, "fire", t).is(0, "reset").is(true, "fire", 7).is(INDEX, "fire", t).is(1, "reset");
        }
    }

    private static void presentCounts() {
        sentence("Promise 6: no such place");
        for (int p : new int[] {LEAST, -1, 6, 7, MOST}) {
            new Run(6, 1).starts(1, 2, 3, 4, 5, 100).is(INDEX, "at", p).present(1, 2, 3, 4, 5, 100);
        }
        sentence("Promise 6: the present count, not that of the start");
        drain(100).is(100, "at", 0).does("fire", 0).is(99, "at", 0).does("reset").is(100, "at", 0);
    }

    private static void firingsSince() {
        sentence("Promise 7: how many firings there were since it was that, at first");
        new Run(1, 1).is(0, "reset").is(0, "reset");
        new Run(1, 1).is(true, "fire", 0).is(1, "reset").is(0, "reset");
        sentence("Promise 7: since it was set by start() or reset()");
        new Run(1, 1).does("fire", 0).does("reset").does("fire", 0).does("fire", 0).is(2, "reset").is(0, "reset");
        new Run(1, 1).does("fire", 0).does("start", 0, 0).is(0, "reset").does("fire", 0).does("start", 0, 1)
                .does("fire", 0).is(1, "reset");
        sentence("Promise 7: a transition that was not enabled is no firing, and one that changes nothing is one");
        drain(2).does("fire", 0).does("fire", 0).is(false, "fire", 0).is(false, "fire", 0).is(2, "reset").present(2);
        new Run(1, 1).arc(0, 0, 9, 9).starts(9).does("fire", 0).does("fire", 0).does("fire", 0).present(9).is(3, "reset");
        sentence("Promise 7: no other call counts or sets it");
        wheel().does("fire", 0).does("explore").does("back").does("want", 2, 1).does("arc", 2, 0, 0, 0).does("at", 0)
                .does("covered").present(0, 1, 0).is(1, "reset").present(1, 0, 0);
    }

    // ---- Promises 8 to 17 ---------------------------------------------------------------------------------------

    private static void leastTree() {
        sentence("Promise 8: the tree of one node");
        Run r = drain(0).is(1, "explore").is(0, "count", 0, 0).is(INDEX, "count", 1, 0).is(INDEX, "path", 0, 0);
        r.is(NONE, "node", 0, 0).is(NONE, "node", 0, 1).is(0, "node", 0, 2).is(0, "bound", 0).is(1, "tops").is(0, "top", 0);
        r.is(INDEX, "top", 1).is(true, "covered").is(false, "lives", 0).is(0, "dead");
    }

    private static void fullTree() {
        Run r = clock(99, 2).does("start", 3, 100);
        sentence("Promise 8: the tree of 200 nodes");
        r.is(200, "explore");
        sentence("Promise 9: no such node or place, in the full tree");
        r.marked(0, 99, 0, 1, 100).marked(199, 0, 1, 0, 1891).is(INDEX, "count", 200, 0).is(INDEX, "count", -1, 0);
        r.is(INDEX, "count", 199, 4).is(INDEX, "count", 199, -1);
        sentence("Promise 10: no such node; another what, in the full tree");
        r.is(198, "node", 199, 0).is(1, "node", 199, 1).is(0, "node", 199, 2).is(INDEX, "node", 200, 0);
        r.is(INDEX, "node", 200, 3).is(ARGUMENT, "node", 199, 3).is(ARGUMENT, "node", 199, -1);
        sentence("Promise 11: the way has no such one, in the full tree");
        for (int i = 0; i < 199; i++) {
            r.is(1 - i % 2, "path", 199, i);
        }
        r.is(INDEX, "path", 199, 199).is(INDEX, "path", 199, -1).is(INDEX, "path", 200, 0).is(INDEX, "path", 198, 198);
        r.is(0, "path", 198, 197);
        sentence("Promise 12: the greatest count, in the full tree");
        r.is(99, "bound", 0).is(1, "bound", 1).is(1, "bound", 2).is(1891, "bound", 3);
        sentence("Promises 13 and 14: 200 tops");
        r.is(200, "tops").is(0, "top", 0).is(199, "top", 199).is(INDEX, "top", 200).is(INDEX, "top", -1);
        sentence("Promise 15: below the last of 200 nodes alone, and below none");
        r.wants(0, 1, 0, 100).is(true, "covered").wants(99, 1, 0, 100).is(true, "covered").wants(99, 1, 1).is(false, "covered");
        r.wants(100, 0, 0).is(false, "covered");
        sentence("Promise 17: the last of 200 nodes");
        r.is(199, "dead");
        sentence("Promises 13 and 14: one top of 200 nodes");
        drainWithLeaves(2).is(200, "explore").is(1, "tops").is(0, "top", 0).is(INDEX, "top", 1).is(199, "dead");
    }

    private static void nodeQuestions() {
        sentence("Promise 10: NONE for node 0");
        wheel().does("explore").is(NONE, "node", 0, 0).is(NONE, "node", 0, 1).is(0, "node", 1, 0).is(0, "node", 1, 1);
        sentence("Promise 10: another what");
        for (int what : new int[] {LEAST, -1, 3, 4, MOST}) {
            wheel().does("explore").is(ARGUMENT, "node", 0, what).is(ARGUMENT, "node", 8, what)
                    .is(INDEX, "node", 9, what).is(INDEX, "node", -1, what);
            wheel().is(STATE, "node", 0, what).is(STATE, "node", 9, what);
        }
    }

    private static void pathEnds() {
        sentence("Promise 11: the way has no such one");
        Run r = wheel().does("explore");
        r.is(INDEX, "path", 0, 0).is(INDEX, "path", 0, -1).is(0, "path", 1, 0).is(INDEX, "path", 1, 1);
        r.is(2, "path", 8, 3).is(INDEX, "path", 8, 4).is(INDEX, "path", 8, -1).is(INDEX, "path", 8, LEAST);
        r.is(INDEX, "path", 8, MOST).is(INDEX, "path", 9, 0).is(INDEX, "path", -1, 0).is(1, "path", 7, 3);
    }

    private static void bounds() {
        sentence("Promise 12: the greatest count of a place in the tree");
        drain(100).does("explore").is(100, "bound", 0);
        drain(0).does("explore").is(0, "bound", 0);
        new Run(2, 1).arc(0, 0, 1, 0).arc(0, 1, 0, 9).starts(100, 100).is(101, "explore").is(1000, "bound", 1);
        new Run(2, 1).arc(0, 0, 1, 1).arc(0, 1, 0, 1).starts(1, 100).is(3, "explore").is(1, "bound", 0).is(OMEGA, "bound", 1);
        new Run(2, 1).arc(0, 0, 1, 0).arc(0, 1, 0, 1).starts(1, 100).is(2, "explore").is(101, "bound", 1);
    }

    private static void topsInOrder() {
        sentence("Promise 14: there is none such; by their numbers");
        Run r = new Run(3, 3).arc(0, 0, 1, 0).arc(0, 1, 0, 1).arc(1, 0, 1, 0).arc(1, 2, 0, 1).arc(2, 1, 1, 0).starts(1);
        r.is(4, "explore").marked(3, 0, 0, 0).is(3, "tops").is(0, "top", 0).is(1, "top", 1).is(2, "top", 2);
        for (int k : new int[] {LEAST, -1, 3, 4, MOST}) {
            r.is(INDEX, "top", k);
        }
    }

    private static void coveredOrNot() {
        sentence("Promise 15: whether the wanted marking is below that of some node");
        // Never one token in both places at once, though each has one in some node.
        Run r = wheel().does("explore").wants(1, 0, 100).is(true, "covered").wants(0, 1, 100).is(true, "covered");
        r.wants(1, 1, 0).is(false, "covered").wants(2, 0, 0).is(false, "covered").wants(0, 0, 0).is(true, "covered");
        Run last = new Run(2, 1).arc(0, 0, 1, 0).arc(0, 1, 0, 9).starts(3).is(4, "explore");
        last.wants(0, 27).is(true, "covered").wants(0, 28).is(false, "covered").wants(1, 18).is(true, "covered");
        last.wants(1, 19).is(false, "covered").wants(3, 0).is(true, "covered").wants(3, 1).is(false, "covered");
        sentence("Promise 15: the wanted marking is that of now, not that of explore()");
        drain(1).wants(2).does("explore").is(false, "covered").wants(1).is(true, "covered").wants(2).is(false, "covered");
    }

    private static void livesOrNot() {
        sentence("Promise 16: whether a transition is enabled in some node's marking");
        for (int need = 0; need <= 9; need++) {
            new Run(1, 2).arc(0, 0, 1, 0).arc(1, 0, need, need).starts(5).does("explore").is(need <= 5, "lives", 1);
        }
        Run both = new Run(2, 2).arc(0, 0, 1, 0).arc(0, 1, 0, 1).arc(1, 0, 1, 0).arc(1, 1, 1, 0);
        both.starts(1).does("explore").is(false, "lives", 1).starts(2).does("explore").is(true, "lives", 1);
        new Run(2, 2).arc(0, 0, 1, 0).arc(0, 1, 0, 9).arc(1, 1, 9, 0).starts(1).does("explore").is(true, "lives", 1);
        new Run(2, 2).arc(0, 0, 1, 0).arc(0, 1, 0, 8).arc(1, 1, 9, 0).starts(1).does("explore").is(false, "lives", 1);
    }

    private static void deadOrNot() {
        sentence("Promise 17: the first node by number in whose marking no transition is enabled");
        drain(0).does("explore").is(0, "dead");
        drain(1).does("explore").is(1, "dead");
        drain(100).does("explore").is(100, "dead");
        new Run(3, 2).arc(0, 0, 1, 0).arc(0, 1, 0, 1).arc(1, 0, 1, 0).arc(1, 2, 0, 1).starts(1).is(3, "explore").is(1, "dead");
        // Two tokens go 0 -> 1 -> 2 by two ways, which end in nodes 5 and 6.
        new Run(3, 2).arc(0, 0, 1, 0).arc(0, 1, 0, 1).arc(1, 1, 1, 0).arc(1, 2, 0, 1).starts(1, 1).is(7, "explore").is(5, "dead");
        sentence("Promise 17: NONE when there is none");
        new Run(1, 1).does("explore").is(NONE, "dead");
        drain(1).arc(0, 0, 1, 1).is(2, "explore").is(NONE, "dead");
        new Run(1, 2).arc(0, 0, 1, 0).starts(1).does("explore").is(NONE, "dead");
    }

    // ---- Promises 18 to 21 --------------------------------------------------------------------------------------

    private static void leastGoals() {
        sentence("Promise 18: the wanted marking with no token is the one goal");
        Run r = wheel().is(1, "back").aims(0, 0, 0, 0).is(INDEX, "goal", 1, 0).is(0, "length").is(INDEX, "way", 0);
        r.is(INDEX, "way", -1);
        new Run(1, 1).arc(0, 0, 9, 9).is(1, "back").aims(0, 0).is(0, "length");
    }

    private static void fullGoals() {
        Run r = new Run(2, 1).arc(0, 0, 9, 0).arc(0, 1, 0, 1).wants(100, 47);
        sentence("Promise 18: 48 goals, none of which is given up");
        r.is(48, "back");
        sentence("Promise 19: no such goal or place, of 48");
        for (int k = 0; k < 48; k++) {
            r.aims(k, 100 + 9 * k, 47 - k);
        }
        r.is(INDEX, "goal", 48, 0).is(INDEX, "goal", -1, 0).is(INDEX, "goal", 47, 2).is(INDEX, "goal", 47, -1);
        r.is(UNSUPPORTED, "length").is(UNSUPPORTED, "way", 0).is(UNSUPPORTED, "way", -1);
        sentence("Promises 20 and 21: the longest way, of 47");
        for (Run full : List.of(pour(47, 47), pour(100, 47), spring(0, 47))) {
            full.does("back").is(47, "length").is(INDEX, "way", 47).is(INDEX, "way", -1);
            for (int i = 0; i < 47; i++) {
                full.is(0, "way", i).is(true, "fire", 0);
            }
        }
    }

    private static void goalsBesideGivenUp() {
        sentence("Promise 19: of those that are not given up, by their numbers");
        Run r = wheel().wants(0, 0, 3).is(3, "back");
        r.aims(0, 0, 0, 3).aims(1, 0, 1, 0).aims(2, 1, 0, 0).is(INDEX, "goal", 3, 0).is(INDEX, "goal", -1, 0);
        r.is(INDEX, "goal", LEAST, 0).is(INDEX, "goal", MOST, 0).is(INDEX, "goal", 0, 3).is(INDEX, "goal", 2, -1);
        spring(0, 3).is(1, "back").aims(0, 0).is(INDEX, "goal", 1, 0).is(INDEX, "goal", 3, 0);
    }

    private static void wayEnds() {
        sentence("Promise 20: the wanted marking can't be covered");
        wheel().wants(1, 1).does("back").is(UNSUPPORTED, "length").wants(1, 0).does("back").is(0, "length");
        wheel().wants(1, 1).is(STATE, "length").is(STATE, "way", 0).is(STATE, "way", -1);
        sentence("Promise 21: the way has no such one");
        Run r = wheel().wants(0, 0, 3).does("back").is(6, "length");
        for (int i = 0; i < 6; i++) {
            r.is(i % 2, "way", i);
        }
        r.is(INDEX, "way", 6).is(INDEX, "way", 7).is(INDEX, "way", -1).is(INDEX, "way", LEAST).is(INDEX, "way", MOST);
        sentence("Promise 21: the way is that from the start, whatever the present marking is");
        wheel().wants(0, 0, 1).does("fire", 0).does("back").is(2, "length").is(0, "way", 0).is(1, "way", 1).present(0, 1, 0);
    }

    private static void terms() {
        placesByNumber();
        transitionsByNumber();
        nothingNeededAtFirst();
        omegaIsMoreThanAnyNumber();
        omegaStaysItself();
        enabledUpToTheLastToken();
        neededBeforeGiven();
        belowItself();
        allZeroAtFirst();
        node0IsTheStart();
        leaves();
        noOmegaWithoutLess();
        omegaAsLongAs();
        tree199to201();
        topOfTwins();
        goal0IsTheWanted();
        givenUpAreLeftOut();
        whatIsNeededIsTheLeast();
        knownGoalsAreNotMade();
        allThatItIsBelowAreGivenUp();
        goals47to49();
        coveredByEqualStart();
        firstGoalBelowTheStart();
        fullRefusals();
        netChanges();
        wantedChanges();
        noTreeAtFirst();
        otherCallsDropNothing();
        theLastOneCounts();
        allWrongCalls();
    }

    private static void promises() {
        sizes();
        arcNumbers();
        arcLeavesThePresent();
        startNumbers();
        wantNumbers();
        firing();
        presentCounts();
        firingsSince();
        leastTree();
        fullTree();
        nodeQuestions();
        pathEnds();
        bounds();
        topsInOrder();
        coveredOrNot();
        livesOrNot();
        deadOrNot();
        leastGoals();
        fullGoals();
        goalsBesideGivenUp();
        wayEnds();
    }

    public static void main(String[] args) {
        the512thCall();
        terms();
        promises();
        System.out.println(sentences + " boundary cases, " + checks + " checks, " + wrong + " wrong");
        if (wrong != 0) {
            System.exit(1);
        }
    }
}
