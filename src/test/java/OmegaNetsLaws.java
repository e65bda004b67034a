import java.util.ArrayDeque;
import java.util.ArrayList;
import java.util.Arrays;
import java.util.Deque;
import java.util.HashSet;
import java.util.List;
import java.util.Random;
import java.util.Set;

/**
 * What must hold of every net whatever the numbers are: forwards and backwards tell the same, the way can be played,
 * and the tree has just what can be reached. Nothing here follows the steps by which the document makes tree and goals,
 * so it would show a wrong step even where the class and the model have the same one.
 */
public final class OmegaNetsLaws {
    private static final int NETS = 6000;
    private static final int CALLS = 512;
    private static final int MOST_TOKENS = 100;

    private static int wrong = 0;
    private static int seed = 0;
    private static int coverable = 0;
    private static int notCoverable = 0;
    private static int bounded = 0;
    private static int unbounded = 0;
    private static int wholeWays = 0;
    private static int leastGoals = 0;
    private static int boundsSeenBackwards = 0;

    private static void check(boolean right, String law) {
        if (!right) {
            wrong++;
            System.out.println("net " + seed + ": " + law);
        }
    }

    /** A net as plain numbers, of which as many objects are made as its calls need. */
    private static final class Plan {
        final int places;
        final int transitions;
        final int[][] need;
        final int[][] give;
        final int[] start;
        final int[] wanted;

        Plan(Random random) {
            places = 1 + random.nextInt(4);
            transitions = 1 + random.nextInt(4);
            need = new int[transitions][places];
            give = new int[transitions][places];
            start = new int[places];
            wanted = new int[places];
            for (int t = 0; t < transitions; t++) {
                for (int p = 0; p < places; p++) {
                    need[t][p] = few(random);
                    give[t][p] = few(random);
                }
            }
            for (int p = 0; p < places; p++) {
                start[p] = random.nextInt(4);
                wanted[p] = random.nextInt(5);
            }
        }

        private static int few(Random random) {
            return Math.max(0, random.nextInt(5) - 2);
        }

        Plan(Plan other, int[] start, int[] wanted) {
            places = other.places;
            transitions = other.transitions;
            need = other.need;
            give = other.give;
            this.start = start;
            this.wanted = wanted;
        }

        OmegaNets object() {
            OmegaNets net = new OmegaNets(places, transitions);
            for (int t = 0; t < transitions; t++) {
                for (int p = 0; p < places; p++) {
                    net.arc(t, p, need[t][p], give[t][p]);
                }
            }
            for (int p = 0; p < places; p++) {
                net.start(p, start[p]);
                net.want(p, wanted[p]);
            }
            return net;
        }

        int callsOfObject() {
            return transitions * places + 2 * places;
        }

        boolean enables(int[] marking, int t) {
            for (int p = 0; p < places; p++) {
                if (marking[p] < need[t][p]) {
                    return false;
                }
            }
            return true;
        }

        int[] fired(int[] marking, int t) {
            int[] next = marking.clone();
            for (int p = 0; p < places; p++) {
                next[p] += give[t][p] - need[t][p];
            }
            return next;
        }
    }

    private static int height(int count) {
        return count == OmegaNets.OMEGA ? Integer.MAX_VALUE : count;
    }

    private static boolean below(int[] low, int[] high) {
        for (int p = 0; p < low.length; p++) {
            if (height(low[p]) > height(high[p])) {
                return false;
            }
        }
        return true;
    }

    private static boolean hasTree(Plan plan) {
        try {
            plan.object().explore();
            return true;
        } catch (IllegalStateException e) {
            return false;
        }
    }

    private static boolean hasGoals(Plan plan) {
        try {
            plan.object().back();
            return true;
        } catch (IllegalStateException e) {
            return false;
        }
    }

    private static boolean coveredBackwards(Plan plan) {
        OmegaNets net = plan.object();
        net.back();
        try {
            net.length();
            return true;
        } catch (UnsupportedOperationException e) {
            return false;
        }
    }

    private static boolean coveredForwards(Plan plan) {
        OmegaNets net = plan.object();
        net.explore();
        return net.covered();
    }

    /** The markings of all nodes, read from as many objects as the limit of calls asks for. */
    private static List<int[]> nodes(Plan plan) {
        List<int[]> markings = new ArrayList<>();
        OmegaNets net = plan.object();
        int size = net.explore();
        int calls = plan.callsOfObject() + 1;
        for (int n = 0; n < size; n++) {
            if (calls + plan.places > CALLS) {
                net = plan.object();
                net.explore();
                calls = plan.callsOfObject() + 1;
            }
            int[] marking = new int[plan.places];
            for (int p = 0; p < plan.places; p++) {
                marking[p] = net.count(n, p);
            }
            calls += plan.places;
            markings.add(marking);
        }
        return markings;
    }

    private static List<int[]> goals(Plan plan) {
        List<int[]> markings = new ArrayList<>();
        OmegaNets net = plan.object();
        int size = net.back();
        for (int k = 0; k < size; k++) {
            int[] marking = new int[plan.places];
            for (int p = 0; p < plan.places; p++) {
                marking[p] = net.goal(k, p);
            }
            markings.add(marking);
        }
        return markings;
    }

    private static void bothDirectionsAgree(Plan plan) {
        boolean backwards = coveredBackwards(plan);
        check(coveredForwards(plan) == backwards, "forwards and backwards differ on whether the wanted is covered");
        if (backwards) {
            coverable++;
        } else {
            notCoverable++;
        }
    }

    private static void wayCanBePlayed(Plan plan) {
        OmegaNets net = plan.object();
        net.back();
        int length = net.length();
        for (int i = 0; i < length; i++) {
            check(net.fire(net.way(i)), "step " + i + " of the way is not enabled");
        }
        for (int p = 0; p < plan.places; p++) {
            check(net.at(p) >= plan.wanted[p], "the way ends with too little in " + p);
        }
        check(net.reset() == length, "the way's firings are not all counted");
        if (length > 1) {
            wholeWays++;
        }
    }

    private static void keptGoalsAreTheLeast(Plan plan) {
        List<int[]> goals = goals(plan);
        for (int[] goal : goals) {
            for (int[] other : goals) {
                check(goal == other || !below(goal, other), "a kept goal is below another one");
            }
            if (Arrays.stream(goal).max().orElse(0) > MOST_TOKENS) {
                continue;
            }
            check(coveredBackwards(new Plan(plan, goal, plan.wanted)), "nothing wanted is covered from a kept goal");
            for (int p = 0; p < plan.places; p++) {
                if (goal[p] > 0) {
                    int[] less = goal.clone();
                    less[p]--;
                    check(!coveredBackwards(new Plan(plan, less, plan.wanted)), "a kept goal is not a least one");
                    leastGoals++;
                }
            }
        }
    }

    private static void topsStandOverAll(Plan plan, List<int[]> nodes) {
        OmegaNets net = plan.object();
        net.explore();
        int tops = net.tops();
        Set<Integer> numbers = new HashSet<>();
        List<int[]> markings = new ArrayList<>();
        int before = -1;
        for (int k = 0; k < tops; k++) {
            int n = net.top(k);
            check(n > before, "the tops are not in the order of their numbers");
            before = n;
            numbers.add(n);
            for (int earlier = 0; earlier < n; earlier++) {
                check(!Arrays.equals(nodes.get(earlier), nodes.get(n)), "a top is not the first with its marking");
            }
            markings.add(nodes.get(n));
        }
        for (int n = 0; n < nodes.size(); n++) {
            int over = 0;
            for (int k = 0; k < tops; k++) {
                over += below(nodes.get(n), markings.get(k)) ? 1 : 0;
            }
            check(over > 0, "no top stands over node " + n);
            check(!numbers.contains(n) || over == 1, "a top is below another one");
        }
    }

    private static Set<String> reachable(Plan plan, int limit) {
        Set<String> seen = new HashSet<>();
        Deque<int[]> open = new ArrayDeque<>();
        seen.add(Arrays.toString(plan.start));
        open.add(plan.start);
        while (!open.isEmpty() && seen.size() <= limit) {
            int[] marking = open.remove();
            for (int t = 0; t < plan.transitions; t++) {
                if (plan.enables(marking, t)) {
                    int[] next = plan.fired(marking, t);
                    if (seen.add(Arrays.toString(next))) {
                        open.add(next);
                    }
                }
            }
        }
        return seen;
    }

    private static void boundedTreeIsAllThatCanBeReached(Plan plan, List<int[]> nodes) {
        Set<String> told = new HashSet<>();
        for (int[] marking : nodes) {
            told.add(Arrays.toString(marking));
        }
        check(told.equals(reachable(plan, 1000)), "the tree's markings are not those that can be reached");
        bounded++;
    }

    private static void boundsAreSeenBackwards(Plan plan) {
        OmegaNets net = plan.object();
        net.explore();
        for (int p = 0; p < plan.places; p++) {
            int bound = net.bound(p);
            int reached = bound == OmegaNets.OMEGA ? MOST_TOKENS / 4 : bound;
            checkReached(plan, p, reached, true);
            if (bound != OmegaNets.OMEGA) {
                checkReached(plan, p, reached + 1, false);
            }
        }
    }

    private static void checkReached(Plan plan, int p, int tokens, boolean due) {
        int[] wanted = new int[plan.places];
        wanted[p] = tokens;
        Plan asked = new Plan(plan, plan.start, wanted);
        if (tokens <= MOST_TOKENS && hasGoals(asked)) {
            check(coveredBackwards(asked) == due, "place " + p + " with " + tokens + " tokens: not " + due);
            boundsSeenBackwards++;
        }
    }

    /** A transition lives when what it needs can be covered. */
    private static void livingIsSeenBackwards(Plan plan) {
        OmegaNets net = plan.object();
        net.explore();
        for (int t = 0; t < plan.transitions; t++) {
            Plan asked = new Plan(plan, plan.start, plan.need[t]);
            if (hasGoals(asked)) {
                check(net.lives(t) == coveredBackwards(asked), "forwards and backwards differ on whether " + t + " lives");
            }
        }
    }

    private static void deadIsTheFirstStuck(Plan plan, List<int[]> nodes) {
        int due = OmegaNets.NONE;
        for (int n = nodes.size() - 1; n >= 0; n--) {
            boolean stuck = true;
            for (int t = 0; t < plan.transitions; t++) {
                stuck &= !below(plan.need[t], nodes.get(n));
            }
            due = stuck ? n : due;
        }
        OmegaNets net = plan.object();
        net.explore();
        check(net.dead() == due, "the first dead node is not " + due);
    }

    private static void lookForwards(Plan plan) {
        List<int[]> nodes = nodes(plan);
        topsStandOverAll(plan, nodes);
        deadIsTheFirstStuck(plan, nodes);
        boundsAreSeenBackwards(plan);
        livingIsSeenBackwards(plan);
        if (nodes.stream().noneMatch(m -> Arrays.stream(m).anyMatch(c -> c == OmegaNets.OMEGA))) {
            boundedTreeIsAllThatCanBeReached(plan, nodes);
        } else {
            check(reachable(plan, 1000).size() > 1000, "a count is OMEGA though few markings can be reached");
            unbounded++;
        }
    }

    private static void lookBackwards(Plan plan) {
        keptGoalsAreTheLeast(plan);
        if (coveredBackwards(plan)) {
            wayCanBePlayed(plan);
        }
    }

    /** A law that was never put to the test is no law that holds. */
    private static void checkThatAllWereTried() {
        int[] tried = {coverable, notCoverable, bounded, unbounded, wholeWays, leastGoals, boundsSeenBackwards};
        for (int count : tried) {
            check(count >= 100, "a law was hardly tried: " + Arrays.toString(tried));
        }
    }

    public static void main(String[] args) {
        for (seed = 0; seed < NETS; seed++) {
            Plan plan = new Plan(new Random(seed));
            boolean tree = hasTree(plan);
            boolean goals = hasGoals(plan);
            if (tree) {
                lookForwards(plan);
            }
            if (goals) {
                lookBackwards(plan);
            }
            if (tree && goals) {
                bothDirectionsAgree(plan);
            }
        }
        checkThatAllWereTried();
        System.out.println(NETS + " nets (" + coverable + " wanted markings covered, " + notCoverable + " not, " + bounded
                + " nets bounded, " + unbounded + " not), " + wrong + " laws broken");
        System.exit(wrong == 0 ? 0 : 1);
    }
}
