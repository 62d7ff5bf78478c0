/** Promises 19 to 30: what is told of functions. */
public final class ToldTest {
    private static final int UNKNOWN = -1, OUTSIDE = -2, OUT = -5, NONE = -9;
    private static final int AND = 4, OR = 5, XOR = 6;

    public static void main(String[] args) {
        unknowns();
        outsides();
        constants();
        nodeCounts();
        sharedNodes();
        peaks();
        values();
        likeOnes();
        counts();
        supports();
        levels();
        leasts();
        pathCounts();
        Due.end();
    }

    /** Handles 0 to 7 have the variables. */
    private static DiagramBench withVariables() {
        DiagramBench x = new DiagramBench();
        for (int v = 0; v < 8; v++) {
            x.variable(v, v);
        }
        return x;
    }

    /** Handle 11 has x0 x1 OR x2 x3 OR x4 x5, by the order given. */
    private static DiagramBench pairs(int... order) {
        DiagramBench x = new DiagramBench();
        for (int place = 0; place < order.length; place++) {
            x.move(order[place], place);
        }
        for (int v = 0; v < 6; v++) {
            x.variable(v, v);
        }
        x.combine(8, AND, 0, 1);
        x.combine(9, AND, 2, 3);
        x.combine(10, AND, 4, 5);
        x.combine(11, OR, 8, 9);
        x.combine(11, OR, 11, 10);
        return x;
    }

    private static void unknowns() {
        DiagramBench x = new DiagramBench();
        x.variable(0, 0);
        for (int f : new int[] {-1, 1, 11, 12}) {
            Due.due("nodes", x.nodes(f), UNKNOWN);
            Due.due("common", x.common(f, 0), UNKNOWN);
            Due.due("common", x.common(0, f), UNKNOWN);
            Due.due("value", x.value(f, 256), UNKNOWN);
            Due.due("same", x.same(f, 0), UNKNOWN);
            Due.due("same", x.same(0, f), UNKNOWN);
            Due.due("count", x.count(f), UNKNOWN);
            Due.due("support", x.support(f), UNKNOWN);
            Due.due("top", x.top(f), UNKNOWN);
            Due.due("level", x.level(f, 8), UNKNOWN);
            Due.due("least", x.least(f, true), UNKNOWN);
            Due.due("paths", x.paths(f, false), UNKNOWN);
        }
    }

    private static void outsides() {
        DiagramBench x = new DiagramBench();
        x.variable(0, 0);
        Due.due("value", x.value(0, -1), OUTSIDE);
        Due.due("value", x.value(0, 256), OUTSIDE);
        Due.due("value", x.value(0, 255), 1);
        Due.due("level", x.level(0, -1), OUTSIDE);
        Due.due("level", x.level(0, 8), OUTSIDE);
        Due.due("level", x.level(0, 7), 0);
    }

    private static void constants() {
        DiagramBench x = new DiagramBench();
        for (int yes = 0; yes < 2; yes++) {
            x.combine(yes, 1 + yes, 0, 0);
            Due.due("nodes", x.nodes(yes), 0);
            Due.due("common", x.common(yes, yes), 0);
            Due.due("value", x.value(yes, 200), yes);
            Due.due("count", x.count(yes), 256 * yes);
            Due.due("support", x.support(yes), 0);
            Due.due("top", x.top(yes), NONE);
            Due.due("level", x.level(yes, 0), 0);
            Due.due("least that is", x.least(yes, yes == 1), 0);
            Due.due("least that is not", x.least(yes, yes == 0), NONE);
            Due.due("paths to it", x.paths(yes, yes == 1), 1);
            Due.due("paths to the other", x.paths(yes, yes == 0), 0);
        }
        Due.due("NO and YES", x.same(0, 1), 0);
        Due.due("in use", x.inUse(), 0);
    }

    private static void nodeCounts() {
        Due.due("pairs side by side", pairs(0, 1, 2, 3, 4, 5).nodes(11), 6);
        Due.due("pairs apart", pairs(0, 2, 4, 1, 3, 5).nodes(11), 14);
        Due.due("pairs apart the other way", pairs(5, 3, 1, 4, 2, 0).nodes(11), 14);
        DiagramBench x = withVariables();
        x.combine(8, XOR, 0, 1);
        for (int v = 2; v < 8; v++) {
            x.combine(8, XOR, 8, v);
            Due.due("XOR of " + (v + 1), x.nodes(8), 2 * v + 1);
        }
    }

    private static void sharedNodes() {
        DiagramBench x = withVariables();
        Due.due("in use", x.inUse(), 8);
        x.combine(8, AND, 0, 7);
        x.combine(9, AND, 1, 7);
        x.combine(10, OR, 1, 7);
        Due.due("x7 in both", x.common(8, 9), 1);
        Due.due("x7 in both", x.common(9, 10), 1);
        Due.due("x7 is one of its nodes", x.common(8, 7), 1);
        Due.due("x0 is not", x.common(8, 0), 0);
        Due.due("itself", x.common(8, 8), 2);
        x.share(11, 8);
        Due.due("like ones", x.common(8, 11), 2);
        Due.due("in use", x.inUse(), 11);
        x.drop(7);
        Due.due("x7 is in use still", x.inUse(), 11);
        x.drop(0);
        Due.due("x0 is not", x.inUse(), 10);
        x.drop(8);
        Due.due("shared", x.inUse(), 10);
        x.drop(11);
        Due.due("x0 AND x7 is gone, x7 not", x.inUse(), 9);
    }

    private static void peaks() {
        DiagramBench x = new DiagramBench();
        Due.due("ahead of any", x.peak(), 0);
        x.variable(0, 0);
        x.variable(1, 1);
        Due.due("two", x.peak(), 2);
        x.drop(0);
        x.nodes(1);
        x.share(2, 1);
        x.variable(3, 8);
        x.combine(3, AND, 0, 1);
        x.room(2);
        x.equal(0, 1);
        Due.due("no call of these made steps", x.peak(), 2);
        x.room(1);
        Due.due("out", x.variable(0, 0), OUT);
        Due.due("the room and 1", x.peak(), 2);
        x.room(250);
        Due.due("as it was", x.peak(), 2);
        x.combine(4, 2, 0, 0);
        Due.due("the latest alone", x.peak(), 1);
    }

    private static void values() {
        DiagramBench x = pairs(5, 2, 0);
        for (int s = 0; s < 256; s++) {
            boolean yes = (s & 3) == 3 || (s & 12) == 12 || (s & 48) == 48;
            Due.due("pairs for " + s, x.value(11, s), yes ? 1 : 0);
        }
    }

    private static void likeOnes() {
        DiagramBench x = withVariables();
        x.combine(8, AND, 2, 3);
        x.combine(9, 7, 3, 2);
        Due.due("AND, NAND", x.same(8, 9), 0);
        x.combine(9, 3, 9, 0);
        Due.due("AND, NOT NAND", x.same(8, 9), 1);
        Due.due("itself", x.same(9, 9), 1);
        Due.due("x0, x1", x.same(0, 1), 0);
    }

    private static void counts() {
        DiagramBench x = withVariables();
        Due.due("x4", x.count(4), 128);
        x.combine(8, AND, 0, 7);
        Due.due("AND", x.count(8), 64);
        x.combine(8, OR, 0, 7);
        Due.due("OR", x.count(8), 192);
        Due.due("pairs", pairs(5, 0, 3).count(11), 256 - 4 * 27);
    }

    private static void supports() {
        DiagramBench x = pairs(4, 3);
        Due.due("six", x.support(11), 63);
        Due.due("top", x.top(11), 4);
        Due.due("two", x.support(8), 3);
        Due.due("top", x.top(8), 0);
        Due.due("top", x.top(9), 3);
        x.restrict(11, 11, 4, true);
        Due.due("one less", x.support(11), 47);
        Due.due("top", x.top(11), 3);
        x.combine(7, XOR, 8, 8);
        Due.due("none", x.support(7), 0);
        Due.due("top", x.top(7), NONE);
    }

    private static void levels() {
        DiagramBench x = pairs(0, 2, 4, 1, 3, 5);
        int[] want = {1, 4, 2, 2, 4, 1, 0, 0};
        int all = 0;
        for (int v = 0; v < 8; v++) {
            Due.due("level " + v, x.level(11, v), want[v]);
            all += want[v];
        }
        Due.due("all", x.nodes(11), all);
    }

    private static void leasts() {
        DiagramBench x = pairs(0, 1, 2, 3, 4, 5);
        Due.due("yes: x4 x5", x.least(11, true), 48);
        Due.due("no", x.least(11, false), 0);
        x = pairs(5, 4, 3, 2, 1, 0);
        Due.due("yes: x0 x1", x.least(11, true), 3);
        x = pairs(0, 2, 4, 1, 3, 5);
        Due.due("yes: x4 x5", x.least(11, true), 48);
        x = pairs(4, 5, 0, 2, 1, 3);
        Due.due("yes: x2 x3", x.least(11, true), 12);
        x = withVariables();
        x.combine(8, 8, 3, 6);
        Due.due("NOR yes", x.least(8, true), 0);
        Due.due("NOR no: x6, the later one", x.least(8, false), 64);
    }

    private static void pathCounts() {
        DiagramBench x = pairs(0, 1, 2, 3, 4, 5);
        Due.due("yes: 1 + 2 + 4", x.paths(11, true), 7);
        Due.due("no: 2 * 2 * 2", x.paths(11, false), 8);
        x = withVariables();
        x.combine(8, XOR, 0, 7);
        Due.due("XOR yes", x.paths(8, true), 2);
        Due.due("XOR no", x.paths(8, false), 2);
        x.combine(9, AND, 1, 2);
        Due.due("AND yes", x.paths(9, true), 1);
        Due.due("AND no", x.paths(9, false), 2);
    }
}
