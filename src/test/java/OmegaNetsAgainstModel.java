import java.util.ArrayList;
import java.util.Arrays;
import java.util.List;
import java.util.Map;
import java.util.Random;
import java.util.TreeMap;
import java.util.function.Supplier;

/** Long runs of calls, fixed by their seeds, on the class and on a slow second program written after the document. */
public final class OmegaNetsAgainstModel {
    private static final int RUNS = 3000;
    private static final int CALLS = 200;
    private static final int MOST_CALLS = 512;

    private static final class Model {
        static final double OMEGA = Double.POSITIVE_INFINITY;

        final int places;
        final int transitions;
        final double[][] need;
        final double[][] give;
        final double[] start;
        final double[] wanted;
        double[] present;
        int firings = 0;
        List<Node> tree = null;
        List<Goal> goals = null;

        static final class Node {
            Node parent;
            int number;
            int transition = -2;
            double[] marking;
            boolean leaf;

            List<Node> above() {
                List<Node> nodes = new ArrayList<>();
                for (Node n = parent; n != null; n = n.parent) {
                    nodes.add(n);
                }
                return nodes;
            }
        }

        static final class Goal {
            Goal from;
            int transition;
            double[] marking;
            boolean givenUp;
        }

        Model(int p, int t) {
            places = p < 1 ? 1 : p > 6 ? 6 : p;
            transitions = t < 1 ? 1 : t > 8 ? 8 : t;
            need = new double[transitions][places];
            give = new double[transitions][places];
            start = new double[places];
            wanted = new double[places];
            present = new double[places];
        }

        static boolean below(double[] a, double[] b) {
            for (int p = 0; p < a.length; p++) {
                if (a[p] > b[p]) {
                    return false;
                }
            }
            return true;
        }

        static int shown(double d) {
            return d == OMEGA ? -1 : (int) d;
        }

        void index(int i, int size) {
            if (i < 0 || i > size - 1) {
                throw new IndexOutOfBoundsException();
            }
        }

        void number(int n, int most) {
            if (n < 0 || n > most) {
                throw new IllegalArgumentException();
            }
        }

        void tree() {
            if (tree == null) {
                throw new IllegalStateException();
            }
        }

        void goals() {
            if (goals == null) {
                throw new IllegalStateException();
            }
        }

        double[] fired(double[] m, int t) {
            double[] r = m.clone();
            for (int p = 0; p < places; p++) {
                r[p] = r[p] - need[t][p] + give[t][p];
            }
            return r;
        }

        Object arc(int t, int p, int n, int g) {
            index(t, transitions);
            index(p, places);
            number(n, 9);
            number(g, 9);
            need[t][p] = n;
            give[t][p] = g;
            tree = null;
            goals = null;
            return g - n;
        }

        Object start(int p, int n) {
            index(p, places);
            number(n, 100);
            int had = (int) start[p];
            start[p] = n;
            present = start.clone();
            firings = 0;
            tree = null;
            goals = null;
            return had;
        }

        Object want(int p, int n) {
            index(p, places);
            number(n, 100);
            int had = (int) wanted[p];
            wanted[p] = n;
            goals = null;
            return had;
        }

        Object fire(int t) {
            index(t, transitions);
            if (!below(need[t], present)) {
                return false;
            }
            present = fired(present, t);
            firings++;
            return true;
        }

        Object at(int p) {
            index(p, places);
            return (int) present[p];
        }

        Object reset() {
            int had = firings;
            present = start.clone();
            firings = 0;
            return had;
        }

        Object explore() {
            List<Node> nodes = new ArrayList<>();
            Node root = new Node();
            root.marking = start.clone();
            nodes.add(root);
            tree = null;
            for (int i = 0; i < nodes.size(); i++) {
                Node n = nodes.get(i);
                n.number = i;
                n.leaf = n.above().stream().anyMatch(a -> Arrays.equals(a.marking, n.marking));
                for (int t = 0; t < transitions && !n.leaf; t++) {
                    if (below(need[t], n.marking)) {
                        Node child = new Node();
                        child.parent = n;
                        child.transition = t;
                        child.marking = fired(n.marking, t);
                        while (raiseOne(child)) {
                        }
                        nodes.add(child);
                    }
                }
                if (nodes.size() > 200) {
                    throw new IllegalStateException();
                }
            }
            tree = nodes;
            return nodes.size();
        }

        boolean raiseOne(Node n) {
            for (Node a : n.above()) {
                for (int p = 0; p < places; p++) {
                    if (below(a.marking, n.marking) && n.marking[p] != OMEGA && a.marking[p] < n.marking[p]) {
                        n.marking[p] = OMEGA;
                        return true;
                    }
                }
            }
            return false;
        }

        Object count(int n, int p) {
            tree();
            index(n, tree.size());
            index(p, places);
            return shown(tree.get(n).marking[p]);
        }

        Object node(int n, int what) {
            tree();
            index(n, tree.size());
            number(what, 2);
            Node node = tree.get(n);
            return what == 2 ? (node.leaf ? 1 : 0) : what == 1 ? node.transition : node.parent == null ? -2 : node.parent.number;
        }

        Object path(int n, int i) {
            tree();
            index(n, tree.size());
            List<Integer> steps = new ArrayList<>();
            for (Node x = tree.get(n); x.parent != null; x = x.parent) {
                steps.add(0, x.transition);
            }
            index(i, steps.size());
            return steps.get(i);
        }

        Object bound(int p) {
            tree();
            index(p, places);
            return shown(tree.stream().mapToDouble(n -> n.marking[p]).max().getAsDouble());
        }

        List<Integer> topNumbers() {
            tree();
            List<Integer> result = new ArrayList<>();
            for (Node n : tree) {
                boolean top = true;
                for (Node o : tree) {
                    boolean excused = Arrays.equals(n.marking, o.marking) && o.number > n.number;
                    top &= o == n || !below(n.marking, o.marking) || excused;
                }
                if (top) {
                    result.add(n.number);
                }
            }
            return result;
        }

        Object top(int k) {
            List<Integer> all = topNumbers();
            index(k, all.size());
            return all.get(k);
        }

        Object covered() {
            tree();
            return tree.stream().anyMatch(n -> below(wanted, n.marking));
        }

        Object lives(int t) {
            tree();
            index(t, transitions);
            return tree.stream().anyMatch(n -> below(need[t], n.marking));
        }

        Object dead() {
            tree();
            return tree.stream().filter(n -> Arrays.stream(need).noneMatch(d -> below(d, n.marking)))
                    .map(n -> n.number).findFirst().orElse(-2);
        }

        Object back() {
            goals = null;
            List<Goal> all = new ArrayList<>();
            Goal first = new Goal();
            first.marking = wanted.clone();
            all.add(first);
            for (int i = 0; i < all.size(); i++) {
                Goal from = all.get(i);
                if (from.givenUp) {
                    continue;
                }
                for (int t = 0; t < transitions; t++) {
                    Goal g = new Goal();
                    g.from = from;
                    g.transition = t;
                    g.marking = need[t].clone();
                    for (int p = 0; p < places; p++) {
                        double other = from.marking[p] - give[t][p] + need[t][p];
                        if (other > g.marking[p]) {
                            g.marking[p] = other;
                        }
                    }
                    if (all.stream().noneMatch(o -> !o.givenUp && below(o.marking, g.marking))) {
                        all.stream().filter(o -> below(g.marking, o.marking)).forEach(o -> o.givenUp = true);
                        all.add(g);
                    }
                }
                if (all.size() > 48) {
                    throw new IllegalStateException();
                }
            }
            goals = all;
            return kept().size();
        }

        List<Goal> kept() {
            return goals.stream().filter(g -> !g.givenUp).toList();
        }

        Object goal(int k, int p) {
            goals();
            index(k, kept().size());
            index(p, places);
            return (int) kept().get(k).marking[p];
        }

        List<Integer> wayOf() {
            goals();
            Goal g = goals.stream().filter(o -> below(o.marking, start)).findFirst()
                    .orElseThrow(UnsupportedOperationException::new);
            List<Integer> steps = new ArrayList<>();
            for (; g.from != null; g = g.from) {
                steps.add(g.transition);
            }
            double[] m = start;
            for (int t : steps) {
                if (!below(need[t], m)) {
                    throw new AssertionError("the way can't be fired");
                }
                m = fired(m, t);
            }
            if (!below(wanted, m)) {
                throw new AssertionError("the way does not cover");
            }
            return steps;
        }

        Object way(int i) {
            List<Integer> steps = wayOf();
            index(i, steps.size());
            return steps.get(i);
        }
    }

    private static final Map<String, Integer> seen = new TreeMap<>();
    private static final List<String> told = new ArrayList<>();
    private static int wrong = 0;
    private static int calls = 0;

    private static Object answer(Supplier<Object> call) {
        try {
            return call.get();
        } catch (RuntimeException e) {
            return "throws." + e.getClass().getSimpleName();
        }
    }

    /** Compares a call's answers; behind the 512th call of an object they are free, so none is made there. */
    private static void same(String call, Supplier<Object> mine, Supplier<Object> model) {
        if (calls == MOST_CALLS) {
            return;
        }
        calls++;
        Object got = answer(mine);
        Object due = answer(model);
        told.add(call + " = " + got);
        seen.merge(call.substring(0, call.indexOf('(')) + (due instanceof String ? " " + due : " answers"), 1, Integer::sum);
        if (!got.equals(due)) {
            wrong++;
            if (wrong <= 3) {
                System.out.println("due is " + due + " at the end of " + String.join("; ", told));
            }
        }
    }

    /** Mostly a right index, now and then one just beside the range or far off. */
    private static int index(Random r, int size) {
        int kind = r.nextInt(40);
        if (kind == 0) {
            return -1;
        }
        if (kind == 1) {
            return size;
        }
        if (kind == 2) {
            return r.nextInt();
        }
        return r.nextInt(Math.max(1, size));
    }

    private static int amount(Random r, int usual, int most) {
        int kind = r.nextInt(40);
        if (kind == 0) {
            return -1;
        }
        if (kind == 1) {
            return most + 1;
        }
        if (kind == 2) {
            return r.nextInt(most + 1);
        }
        return r.nextInt(usual + 1);
    }

    private static int onArc(Random r) {
        return r.nextInt(5) < 3 ? 0 : amount(r, 2, 9);
    }

    private static void change(Random r, OmegaNets x, Model m) {
        int p = index(r, m.places);
        switch (r.nextInt(3)) {
            case 0 -> {
                int t = index(r, m.transitions);
                int need = onArc(r);
                int give = onArc(r);
                same("arc(" + t + ", " + p + ", " + need + ", " + give + ")", () -> x.arc(t, p, need, give), () -> m.arc(t, p, need, give));
            }
            case 1 -> {
                int n = amount(r, 4, 100);
                same("start(" + p + ", " + n + ")", () -> x.start(p, n), () -> m.start(p, n));
            }
            default -> {
                int n = amount(r, 3, 100);
                same("want(" + p + ", " + n + ")", () -> x.want(p, n), () -> m.want(p, n));
            }
        }
    }

    private static void ask(Random r, OmegaNets x, Model m) {
        int p = index(r, m.places);
        int t = index(r, m.transitions);
        int n = index(r, m.tree == null ? 1 : m.tree.size());
        int k = index(r, 4);
        int what = amount(r, 2, 2);
        switch (r.nextInt(18)) {
            case 0, 1 -> same("fire(" + t + ")", () -> x.fire(t), () -> m.fire(t));
            case 2 -> same("at(" + p + ")", () -> x.at(p), () -> m.at(p));
            case 3 -> same("reset()", x::reset, m::reset);
            case 4 -> same("explore()", x::explore, m::explore);
            case 5, 6 -> same("count(" + n + ", " + p + ")", () -> x.count(n, p), () -> m.count(n, p));
            case 7 -> same("node(" + n + ", " + what + ")", () -> x.node(n, what), () -> m.node(n, what));
            case 8 -> same("path(" + n + ", " + k + ")", () -> x.path(n, k), () -> m.path(n, k));
            case 9 -> same("bound(" + p + ")", () -> x.bound(p), () -> m.bound(p));
            case 10 -> same("tops()", x::tops, () -> m.topNumbers().size());
            case 11 -> same("top(" + k + ")", () -> x.top(k), () -> m.top(k));
            case 12 -> same("covered()", x::covered, m::covered);
            case 13 -> same("lives(" + t + ")", () -> x.lives(t), () -> m.lives(t));
            case 14 -> same("dead()", x::dead, m::dead);
            case 15 -> same("back()", x::back, m::back);
            case 16 -> same("goal(" + k + ", " + p + ")", () -> x.goal(k, p), () -> m.goal(k, p));
            default -> {
                same("length()", x::length, () -> m.wayOf().size());
                same("way(" + k + ")", () -> x.way(k), () -> m.way(k));
            }
        }
    }

    /** Everything that can be asked of the tree and of the goals, as far as the calls go. */
    private static void askAll(OmegaNets x, Model m) {
        same("explore()", x::explore, m::explore);
        same("back()", x::back, m::back);
        same("dead()", x::dead, m::dead);
        same("covered()", x::covered, m::covered);
        same("length()", x::length, () -> m.wayOf().size());
        for (int i = 0; i < 10; i++) {
            int k = i;
            same("top(" + k + ")", () -> x.top(k), () -> m.top(k));
            same("way(" + k + ")", () -> x.way(k), () -> m.way(k));
            for (int j = 0; j < m.places; j++) {
                int p = j;
                same("goal(" + k + ", " + p + ")", () -> x.goal(k, p), () -> m.goal(k, p));
            }
        }
        for (int i = 0; m.tree != null && i < m.tree.size(); i++) {
            int n = i;
            for (int j = 0; j < m.places; j++) {
                int p = j;
                same("count(" + n + ", " + p + ")", () -> x.count(n, p), () -> m.count(n, p));
            }
            for (int j = 0; j < 3; j++) {
                int what = j;
                same("node(" + n + ", " + what + ")", () -> x.node(n, what), () -> m.node(n, what));
            }
            same("path(" + n + ", 0)", () -> x.path(n, 0), () -> m.path(n, 0));
        }
    }

    private static void run(int seed) {
        Random r = new Random(seed);
        int places = r.nextInt(8);
        int transitions = 1 + r.nextInt(r.nextInt(10) + 1);
        OmegaNets x = new OmegaNets(places, transitions);
        Model m = new Model(places, transitions);
        told.clear();
        calls = 0;
        told.add("run " + seed + ": new OmegaNets(" + places + ", " + transitions + ")");
        // Transitions that need nothing make the tree burst at once; most nets get a need for each.
        for (int t = 0; t < m.transitions; t++) {
            if (r.nextInt(6) > 0) {
                int which = t;
                int p = r.nextInt(m.places);
                int need = 1 + r.nextInt(2);
                same("arc(" + t + ", " + p + ", " + need + ", 0)", () -> x.arc(which, p, need, 0), () -> m.arc(which, p, need, 0));
            }
        }
        for (int i = r.nextInt(20); i >= 0; i--) {
            change(r, x, m);
        }
        int changing = 2 + r.nextInt(30);
        for (int i = 0; i < CALLS; i++) {
            if (r.nextInt(changing) == 0) {
                change(r, x, m);
            } else {
                ask(r, x, m);
            }
        }
        askAll(x, m);
    }

    public static void main(String[] args) {
        for (int seed = 1; seed <= RUNS; seed++) {
            run(seed);
        }
        if (args.length > 0) {
            seen.forEach((kind, times) -> System.out.println(kind + ": " + times));
        }
        System.out.println(RUNS + " runs, " + wrong + " wrong answers");
        if (wrong != 0) {
            System.exit(1);
        }
    }
}
