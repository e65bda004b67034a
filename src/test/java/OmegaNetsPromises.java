import java.util.function.Supplier;

/** The promises of the document, one after the other: ordinary inputs, edges, wrong inputs. */
public final class OmegaNetsPromises {
    private static final String STATE = "IllegalStateException";
    private static final String INDEX = "IndexOutOfBoundsException";
    private static final String ARGUMENT = "IllegalArgumentException";
    private static final String UNSUPPORTED = "UnsupportedOperationException";
    private static final int OMEGA = OmegaNets.OMEGA;
    private static final int NONE = OmegaNets.NONE;

    private static int promise = 0;
    private static int checks = 0;
    private static int wrong = 0;

    private static void is(Object due, Supplier<Object> call) {
        Object got;
        try {
            got = call.get();
        } catch (RuntimeException e) {
            got = "throws " + e.getClass().getSimpleName();
        }
        checks++;
        if (!due.equals(got)) {
            wrong++;
            StackTraceElement place = StackWalker.getInstance()
                    .walk(s -> s.filter(f -> !f.getMethodName().equals("is") && !f.getMethodName().equals("fails"))
                            .findFirst().get().toStackTraceElement());
            System.out.println("promise " + promise + ", line " + place.getLineNumber() + ": " + got + ", due is " + due);
        }
    }

    private static void fails(String exception, Supplier<Object> call) {
        is("throws " + exception, call);
    }

    /** Token goes 0 -> 1 by t0, 1 -> 0 by t1, which also adds to place 2 without bound; t2 does nothing. */
    private static OmegaNets wheel() {
        OmegaNets x = new OmegaNets(3, 3);
        x.arc(0, 0, 1, 0);
        x.arc(0, 1, 0, 1);
        x.arc(1, 1, 1, 0);
        x.arc(1, 0, 0, 1);
        x.arc(1, 2, 0, 1);
        x.start(0, 1);
        return x;
    }

    /** Place 0 is emptied by t0, two at a time, from five; each time place 1 gets one; nothing else ever moves. */
    private static OmegaNets drain() {
        OmegaNets x = new OmegaNets(2, 1);
        x.arc(0, 0, 2, 0);
        x.arc(0, 1, 0, 1);
        x.start(0, 5);
        return x;
    }

    private static void newObject() {
        promise = 1;
        is(-1, () -> OmegaNets.OMEGA);
        is(-2, () -> OmegaNets.NONE);
        int[][] sizes = {{0, 0, 1, 1}, {-7, Integer.MIN_VALUE, 1, 1}, {1, 1, 1, 1}, {3, 5, 3, 5}, {6, 8, 6, 8}, {7, 9, 6, 8},
                {Integer.MAX_VALUE, 1000, 6, 8}, {2, 100, 2, 8}, {100, 2, 6, 2}};
        for (int[] s : sizes) {
            OmegaNets x = new OmegaNets(s[0], s[1]);
            is(0, () -> x.at(s[2] - 1));
            fails(INDEX, () -> x.at(s[2]));
            is(true, () -> x.fire(s[3] - 1));
            fails(INDEX, () -> x.fire(s[3]));
            is(1, x::reset);
            fails(STATE, x::tops);
            fails(STATE, x::length);
            is(0, () -> x.want(0, 1));
            is(0, () -> x.start(0, 1));
        }
        OmegaNets fresh = new OmegaNets(2, 2);
        is(3, fresh::explore);
        is(1, fresh::back);
        is(0, fresh::length);
        is(0, () -> fresh.goal(0, 1));
    }

    private static void arc() {
        promise = 2;
        OmegaNets x = new OmegaNets(2, 3);
        is(-3, () -> x.arc(0, 0, 5, 2));
        is(9, () -> x.arc(2, 1, 0, 9));
        is(-9, () -> x.arc(2, 1, 9, 0));
        is(0, () -> x.arc(1, 1, 9, 9));
        is(0, () -> x.arc(1, 0, 0, 0));
        for (int[] a : new int[][] {{3, 0}, {-1, 0}, {0, 2}, {0, -1}, {3, 2}, {Integer.MAX_VALUE, 0}, {0, Integer.MIN_VALUE}}) {
            fails(INDEX, () -> x.arc(a[0], a[1], 1, 1));
            fails(INDEX, () -> x.arc(a[0], a[1], 10, -1));
        }
        for (int[] a : new int[][] {{10, 0}, {-1, 0}, {0, 10}, {0, -1}, {Integer.MAX_VALUE, 1}, {1, Integer.MIN_VALUE}}) {
            fails(ARGUMENT, () -> x.arc(0, 0, a[0], a[1]));
        }
        x.start(0, 5);
        is(true, () -> x.fire(0));
        is(2, () -> x.at(0));
        is(false, () -> x.fire(0));
        is(-1, () -> x.arc(0, 0, 2, 1));
        is(2, () -> x.at(0));
        is(true, () -> x.fire(0));
        is(1, () -> x.at(0));
        is(2, x::reset);
    }

    private static void start() {
        promise = 3;
        OmegaNets x = new OmegaNets(2, 1);
        x.arc(0, 1, 0, 3);
        is(0, () -> x.start(0, 100));
        is(100, () -> x.start(0, 7));
        is(7, () -> x.start(0, 7));
        is(true, () -> x.fire(0));
        is(3, () -> x.at(1));
        fails(INDEX, () -> x.start(2, 1));
        fails(INDEX, () -> x.start(-1, 101));
        fails(ARGUMENT, () -> x.start(0, 101));
        fails(ARGUMENT, () -> x.start(1, -1));
        is(3, () -> x.at(1));
        is(7, () -> x.start(0, 0));
        is(0, () -> x.at(1));
        is(0, () -> x.at(0));
        is(0, x::reset);
    }

    private static void want() {
        promise = 4;
        OmegaNets x = new OmegaNets(2, 1);
        is(0, () -> x.want(1, 100));
        is(100, () -> x.want(1, 0));
        is(0, () -> x.want(0, 4));
        x.fire(0);
        fails(INDEX, () -> x.want(2, 1));
        fails(INDEX, () -> x.want(-1, -1));
        fails(ARGUMENT, () -> x.want(0, 101));
        fails(ARGUMENT, () -> x.want(0, -1));
        is(4, () -> x.want(0, 3));
        is(0, () -> x.at(0));
        is(1, x::reset);
        is(0, () -> x.start(0, 2));
    }

    private static void fire() {
        promise = 5;
        OmegaNets x = wheel();
        is(false, () -> x.fire(1));
        is(true, () -> x.fire(0));
        is(false, () -> x.fire(0));
        is(true, () -> x.fire(1));
        is(true, () -> x.fire(2));
        fails(INDEX, () -> x.fire(3));
        fails(INDEX, () -> x.fire(-1));
        is(3, x::reset);
        OmegaNets loop = new OmegaNets(1, 1);
        loop.arc(0, 0, 9, 9);
        loop.start(0, 8);
        is(false, () -> loop.fire(0));
        loop.start(0, 9);
        is(true, () -> loop.fire(0));
        is(9, () -> loop.at(0));
        OmegaNets two = new OmegaNets(2, 1);
        two.arc(0, 0, 1, 0);
        two.arc(0, 1, 1, 0);
        two.start(0, 1);
        is(false, () -> two.fire(0));
        is(1, () -> two.at(0));
    }

    private static void at() {
        promise = 6;
        OmegaNets x = new OmegaNets(2, 1);
        x.arc(0, 1, 0, 9);
        x.start(0, 6);
        for (int i = 0; i < 400; i++) {
            x.fire(0);
        }
        is(6, () -> x.at(0));
        is(3600, () -> x.at(1));
        fails(INDEX, () -> x.at(2));
        fails(INDEX, () -> x.at(-1));
        fails(INDEX, () -> x.at(Integer.MIN_VALUE));
    }

    private static void reset() {
        promise = 7;
        OmegaNets x = wheel();
        is(0, x::reset);
        x.fire(0);
        x.fire(0);
        x.fire(1);
        x.fire(0);
        is(3, x::reset);
        is(1, () -> x.at(0));
        is(0, () -> x.at(1));
        is(0, () -> x.at(2));
        is(0, x::reset);
        x.fire(0);
        x.start(2, 0);
        is(0, x::reset);
        x.explore();
        x.back();
        x.fire(0);
        is(1, x::reset);
    }

    private static void explore() {
        promise = 8;
        OmegaNets x = wheel();
        is(9, x::explore);
        is(9, x::explore);
        is(3, () -> drain().explore());
        OmegaNets none = new OmegaNets(1, 1);
        none.arc(0, 0, 1, 0);
        is(1, none::explore);

        // A chain of 101 markings; t1 goes in a circle at each with at least so many tokens, which makes a leaf.
        OmegaNets edge = new OmegaNets(1, 2);
        edge.start(0, 100);
        edge.arc(0, 0, 1, 0);
        edge.arc(1, 0, 2, 2);
        is(200, edge::explore);
        is(0, () -> edge.count(edge.dead(), 0));
        is(0, () -> edge.path(edge.dead(), 99));
        edge.arc(1, 0, 1, 1);
        fails(STATE, edge::explore);
        fails(STATE, edge::tops);
        fails(STATE, edge::explore);
        edge.arc(1, 0, 9, 9);
        is(193, edge::explore);

        OmegaNets wide = new OmegaNets(6, 8);
        for (int p = 0; p < 6; p++) {
            wide.arc(p, p, 0, 1);
        }
        fails(STATE, wide::explore);
        fails(STATE, () -> wide.count(0, 0));
    }

    private static void treeGoesWithTheNet() {
        promise = 8;
        OmegaNets x = wheel();
        x.explore();
        x.fire(0);
        x.reset();
        x.want(0, 3);
        x.back();
        is(2, x::tops);
        fails(INDEX, () -> x.arc(3, 0, 0, 0));
        fails(ARGUMENT, () -> x.arc(0, 0, 10, 0));
        fails(INDEX, () -> x.start(3, 0));
        fails(ARGUMENT, () -> x.start(0, 101));
        is(2, x::tops);
        is(3, () -> x.goal(0, 0));
        x.arc(2, 0, 0, 0);
        fails(STATE, x::tops);
        fails(STATE, x::covered);
        fails(STATE, () -> x.goal(0, 0));
        x.back();
        fails(STATE, x::dead);
        x.explore();
        is(NONE, x::dead);
        x.start(0, 1);
        fails(STATE, x::dead);
        fails(STATE, x::length);
        x.explore();
        fails(STATE, x::length);
    }

    private static void count() {
        promise = 9;
        OmegaNets x = wheel();
        fails(STATE, () -> x.count(0, 0));
        fails(STATE, () -> x.count(-1, 9));
        x.explore();
        int[][] due = {{1, 0, 0}, {0, 1, 0}, {1, 0, 0}, {1, 0, OMEGA}, {0, 1, 0}, {0, 1, OMEGA}, {1, 0, OMEGA},
                {1, 0, OMEGA}, {0, 1, OMEGA}};
        for (int n = 0; n < due.length; n++) {
            for (int p = 0; p < 3; p++) {
                int node = n;
                int place = p;
                is(due[n][p], () -> x.count(node, place));
            }
        }
        fails(INDEX, () -> x.count(9, 0));
        fails(INDEX, () -> x.count(-1, 0));
        fails(INDEX, () -> x.count(0, 3));
        fails(INDEX, () -> x.count(0, -1));
    }

    /** A count that becomes OMEGA by one node above lets a further one be below, which was greater there before. */
    private static void countsRiseInTurn() {
        promise = 9;
        OmegaNets x = new OmegaNets(3, 3);
        x.start(0, 3);
        x.arc(0, 0, 3, 0);
        x.arc(0, 1, 0, 1);
        x.arc(1, 1, 1, 1);
        x.arc(1, 0, 0, 1);
        x.arc(1, 2, 0, 1);
        x.arc(2, 2, 9, 0);
        // Node 0 is (3,0,0), node 1 (0,1,0); then t1 leads to (1,1,1): node 1 lifts 0 and 2, so node 0 lifts 1.
        x.explore();
        is(1, () -> x.node(2, 0));
        is(1, () -> x.node(2, 1));
        is(OMEGA, () -> x.count(2, 0));
        is(OMEGA, () -> x.count(2, 1));
        is(OMEGA, () -> x.count(2, 2));
        is(0, () -> x.node(2, 2));
        is(OMEGA, () -> x.count(3, 2));
        is(1, () -> x.node(3, 2));
    }

    /** The node above that is nearer is below only when the one that is further has made a count OMEGA. */
    private static void countsRiseTwice() {
        promise = 9;
        OmegaNets x = new OmegaNets(2, 2);
        x.start(1, 1);
        x.arc(0, 1, 1, 0);
        x.arc(0, 0, 0, 3);
        x.arc(1, 0, 2, 0);
        x.arc(1, 1, 0, 1);
        // Node 0 is (0,1), node 1 (3,0); then t1 leads to (1,1): node 0 lifts 0, so node 1 lifts 1.
        x.explore();
        is(3, () -> x.count(1, 0));
        is(0, () -> x.count(1, 1));
        is(OMEGA, () -> x.count(2, 0));
        is(OMEGA, () -> x.count(2, 1));
    }

    /** Nothing of a greater tree, or of more goals, is seen in those that are made after them. */
    private static void nothingIsLeftOver() {
        promise = 8;
        OmegaNets x = wheel();
        x.want(2, 3);
        x.explore();
        x.back();
        x.arc(1, 0, 0, 0);
        x.arc(2, 1, 9, 0);
        x.start(2, 7);
        is(3, x::explore);
        is(8, () -> x.bound(2));
        is(3, x::tops);
        is(2, x::dead);
        is(false, () -> x.lives(2));
        x.want(0, 2);
        is(false, x::covered);
        x.want(0, 1);
        is(true, x::covered);
        fails(INDEX, () -> x.count(3, 0));
        x.arc(0, 0, 9, 0);
        is(1, x::explore);
        is(0, () -> x.bound(1));
        is(1, x::tops);
        is(0, x::dead);
        is(false, () -> x.lives(0));
        is(false, () -> x.lives(1));
        is(true, x::covered);
        x.arc(1, 2, 0, 0);
        x.want(2, 100);
        is(1, x::back);
        fails(INDEX, () -> x.goal(1, 0));
        fails(UNSUPPORTED, x::length);
    }

    private static void node() {
        promise = 10;
        OmegaNets x = wheel();
        fails(STATE, () -> x.node(0, 0));
        fails(STATE, () -> x.node(-1, 7));
        x.explore();
        int[] parents = {NONE, 0, 0, 1, 1, 3, 3, 5, 5};
        int[] transitions = {NONE, 0, 2, 1, 2, 0, 2, 1, 2};
        int[] leaves = {0, 0, 1, 0, 1, 0, 1, 1, 1};
        for (int n = 0; n < 9; n++) {
            int node = n;
            is(parents[n], () -> x.node(node, 0));
            is(transitions[n], () -> x.node(node, 1));
            is(leaves[n], () -> x.node(node, 2));
        }
        fails(INDEX, () -> x.node(9, 0));
        fails(INDEX, () -> x.node(-1, 3));
        fails(ARGUMENT, () -> x.node(0, 3));
        fails(ARGUMENT, () -> x.node(8, -1));
        OmegaNets y = drain();
        y.explore();
        is(0, () -> y.node(2, 2));
        // The same marking beside it, not above it, makes no leaf.
        OmegaNets z = new OmegaNets(2, 2);
        z.start(0, 1);
        z.start(1, 1);
        z.arc(0, 0, 1, 0);
        z.arc(1, 1, 1, 0);
        is(5, z::explore);
        is(0, () -> z.node(3, 2));
        is(0, () -> z.node(4, 2));
    }

    private static void path() {
        promise = 11;
        OmegaNets x = wheel();
        fails(STATE, () -> x.path(0, 0));
        x.explore();
        int[] due = {0, 1, 0, 2};
        for (int i = 0; i < due.length; i++) {
            int step = i;
            is(due[i], () -> x.path(8, step));
        }
        is(2, () -> x.path(4, 1));
        is(2, () -> x.path(2, 0));
        fails(INDEX, () -> x.path(8, 4));
        fails(INDEX, () -> x.path(8, -1));
        fails(INDEX, () -> x.path(2, 1));
        fails(INDEX, () -> x.path(0, 0));
        fails(INDEX, () -> x.path(9, 0));
        fails(INDEX, () -> x.path(-1, 0));
        fails(INDEX, () -> x.path(8, Integer.MAX_VALUE));
        fails(INDEX, () -> x.path(8, Integer.MIN_VALUE));
    }

    private static void bound() {
        promise = 12;
        OmegaNets x = wheel();
        fails(STATE, () -> x.bound(5));
        x.explore();
        is(1, () -> x.bound(0));
        is(1, () -> x.bound(1));
        is(OMEGA, () -> x.bound(2));
        fails(INDEX, () -> x.bound(3));
        fails(INDEX, () -> x.bound(-1));
        OmegaNets y = drain();
        y.explore();
        is(5, () -> y.bound(0));
        is(2, () -> y.bound(1));
        OmegaNets z = new OmegaNets(1, 1);
        z.explore();
        is(0, () -> z.bound(0));
    }

    private static void topsAndTop() {
        promise = 13;
        OmegaNets x = wheel();
        fails(STATE, x::tops);
        x.explore();
        is(2, x::tops);
        OmegaNets y = drain();
        y.explore();
        is(3, y::tops);
        OmegaNets z = new OmegaNets(1, 8);
        z.explore();
        is(1, z::tops);
        promise = 14;
        is(0, () -> z.top(0));
        fails(INDEX, () -> z.top(1));
        is(3, () -> x.top(0));
        is(5, () -> x.top(1));
        fails(INDEX, () -> x.top(2));
        fails(INDEX, () -> x.top(-1));
        is(1, () -> y.top(1));
        is(2, () -> y.top(2));
        fails(STATE, () -> wheel().top(-1));
        OmegaNets only = new OmegaNets(1, 1);
        only.arc(0, 0, 1, 0);
        only.start(0, 3);
        only.explore();
        is(1, only::tops);
        is(0, () -> only.top(0));
    }

    private static void covered() {
        promise = 15;
        OmegaNets x = wheel();
        fails(STATE, x::covered);
        x.explore();
        is(true, x::covered);
        x.want(2, 100);
        is(true, x::covered);
        x.want(0, 1);
        is(true, x::covered);
        x.want(1, 1);
        is(false, x::covered);
        x.want(0, 0);
        is(true, x::covered);
        x.want(1, 2);
        is(false, x::covered);
        x.want(2, 1);
        x.back();
        is(false, x::covered);
    }

    private static void lives() {
        promise = 16;
        OmegaNets x = wheel();
        x.arc(2, 2, 9, 0);
        fails(STATE, () -> x.lives(0));
        fails(STATE, () -> x.lives(9));
        x.explore();
        is(true, () -> x.lives(0));
        is(true, () -> x.lives(1));
        is(true, () -> x.lives(2));
        fails(INDEX, () -> x.lives(3));
        fails(INDEX, () -> x.lives(-1));
        x.arc(2, 0, 1, 0);
        x.arc(2, 1, 1, 0);
        x.explore();
        is(false, () -> x.lives(2));
    }

    private static void dead() {
        promise = 17;
        OmegaNets x = wheel();
        fails(STATE, x::dead);
        x.explore();
        is(NONE, x::dead);
        OmegaNets y = drain();
        y.explore();
        is(2, y::dead);
        y.start(0, 1);
        y.explore();
        is(0, y::dead);
        OmegaNets mended = drain();
        mended.explore();
        mended.arc(0, 0, 2, 2);
        mended.arc(0, 1, 0, 0);
        is(2, mended::explore);
        is(NONE, mended::dead);
        // Two ends: the first by number is told.
        OmegaNets z = new OmegaNets(3, 2);
        z.start(0, 1);
        z.arc(0, 0, 1, 0);
        z.arc(0, 1, 0, 1);
        z.arc(1, 0, 1, 0);
        z.arc(1, 2, 0, 1);
        is(3, z::explore);
        is(1, z::dead);
    }

    private static void back() {
        promise = 18;
        OmegaNets x = wheel();
        x.want(2, 3);
        is(3, x::back);
        is(3, x::back);
        // One place, filled by one: the goals are n, n - 1, .. 0, each giving up the one before it.
        OmegaNets y = new OmegaNets(1, 1);
        y.arc(0, 0, 0, 1);
        y.want(0, 47);
        is(1, y::back);
        is(0, () -> y.goal(0, 0));
        is(47, y::length);
        y.want(0, 48);
        fails(STATE, y::back);
        fails(STATE, y::length);
        fails(STATE, () -> y.goal(0, 0));
        fails(STATE, y::back);
        y.want(0, 2);
        is(1, y::back);
        OmegaNets z = new OmegaNets(1, 1);
        z.want(0, 100);
        is(1, z::back);
        is(100, () -> z.goal(0, 0));
    }

    /** A goal that is given up in its own turn is still worked off with the transitions that are left. */
    private static void givenUpInItsTurn() {
        promise = 18;
        OmegaNets x = new OmegaNets(2, 2);
        x.want(0, 2);
        x.arc(0, 0, 0, 1);
        x.arc(0, 1, 0, 0);
        x.arc(1, 0, 0, 2);
        x.arc(1, 1, 1, 0);
        // Goal 0 is (2,0), goal 1 by t0 (1,0), and by t1 from goal 0 goal 2, (0,1); then (0,0) from goal 1.
        x.start(1, 1);
        is(1, x::back);
        is(1, x::length);
        is(1, () -> x.way(0));
    }

    private static void goalsGoWithTheWanted() {
        promise = 18;
        OmegaNets x = wheel();
        x.want(2, 1);
        x.back();
        x.explore();
        x.fire(0);
        x.reset();
        fails(INDEX, () -> x.want(3, 0));
        fails(ARGUMENT, () -> x.want(0, 101));
        is(2, x::length);
        x.want(2, 1);
        fails(STATE, x::length);
        fails(STATE, () -> x.way(0));
        is(2, x::tops);
        x.back();
        is(2, x::length);
    }

    private static void goal() {
        promise = 19;
        OmegaNets x = wheel();
        fails(STATE, () -> x.goal(0, 0));
        fails(STATE, () -> x.goal(-1, 9));
        x.want(2, 3);
        x.back();
        int[][] due = {{0, 0, 3}, {0, 1, 0}, {1, 0, 0}};
        for (int k = 0; k < 3; k++) {
            for (int p = 0; p < 3; p++) {
                int which = k;
                int place = p;
                is(due[k][p], () -> x.goal(which, place));
            }
        }
        fails(INDEX, () -> x.goal(3, 0));
        fails(INDEX, () -> x.goal(-1, 0));
        fails(INDEX, () -> x.goal(Integer.MIN_VALUE, 0));
        fails(INDEX, () -> x.goal(0, 3));
        fails(INDEX, () -> x.goal(0, -1));
        // What a transition needs is the least that a goal before it has.
        OmegaNets y = new OmegaNets(2, 1);
        y.arc(0, 0, 4, 9);
        y.arc(0, 1, 2, 1);
        y.want(0, 5);
        is(2, y::back);
        is(5, () -> y.goal(0, 0));
        is(4, () -> y.goal(1, 0));
        is(2, () -> y.goal(1, 1));
    }

    private static void length() {
        promise = 20;
        OmegaNets x = wheel();
        fails(STATE, x::length);
        x.want(2, 3);
        x.back();
        is(6, x::length);
        x.want(1, 2);
        x.back();
        fails(UNSUPPORTED, x::length);
        x.want(1, 0);
        x.want(2, 0);
        x.back();
        is(0, x::length);
    }

    private static void way() {
        promise = 21;
        OmegaNets x = wheel();
        fails(STATE, () -> x.way(-1));
        x.want(2, 3);
        x.back();
        for (int i = 0; i < 6; i++) {
            int step = i;
            is(i % 2, () -> x.way(step));
            is(true, () -> x.fire(x.way(step)));
        }
        is(3, () -> x.at(2));
        fails(INDEX, () -> x.way(6));
        fails(INDEX, () -> x.way(-1));
        fails(INDEX, () -> x.way(Integer.MAX_VALUE));
        x.want(1, 2);
        x.back();
        fails(UNSUPPORTED, () -> x.way(0));
        fails(UNSUPPORTED, () -> x.way(-1));
        x.want(1, 0);
        x.want(2, 0);
        x.back();
        fails(INDEX, () -> x.way(0));
        // The first goal by number that is below the start begins the way, though it is given up.
        OmegaNets y = new OmegaNets(1, 1);
        y.arc(0, 0, 0, 1);
        y.want(0, 9);
        y.start(0, 5);
        is(1, y::back);
        is(0, () -> y.goal(0, 0));
        is(4, y::length);
    }

    public static void main(String[] args) {
        newObject();
        arc();
        start();
        want();
        fire();
        at();
        reset();
        explore();
        treeGoesWithTheNet();
        count();
        countsRiseInTurn();
        countsRiseTwice();
        nothingIsLeftOver();
        node();
        path();
        bound();
        topsAndTop();
        covered();
        lives();
        dead();
        back();
        givenUpInItsTurn();
        goalsGoWithTheWanted();
        goal();
        length();
        way();
        System.out.println(checks + " checks, " + wrong + " wrong");
        if (wrong != 0) {
            System.exit(1);
        }
    }
}
