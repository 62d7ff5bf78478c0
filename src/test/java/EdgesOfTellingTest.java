import java.util.function.Supplier;
import java.util.function.ToIntFunction;

/** The edges of promises 19 to 30: what is told of functions that are constants, of one variable, of all of them. */
public final class EdgesOfTellingTest {
    public static void main(String[] args) {
        handlesWithNothing();
        unknownAheadOfOutside();
        noAssignmentNoVariable();
        tellingChangesNothing();
        nodesFewAndMany();
        inUseOfNothing();
        inUseOfLikeOnes();
        commonOfNone();
        commonOfAll();
        peakAheadOfAny();
        peakOfCallsWithoutSteps();
        peakOfRefusedCalls();
        peakOfOut();
        peakIsTheLatest();
        peakOfEachCallAlone();
        peakOfEachStep();
        valueFirstAndLast();
        sameOfLikeAndUnlike();
        countFewAndMany();
        supportNoneAndAll();
        topNoneFirstLast();
        levelFirstAndLast();
        leastNone();
        leastFirstAndLast();
        leastByTheOrder();
        pathsFewAndMany();
        Due.end();
    }

    private static void unknown(String what, ToIntFunction<DiagramBench> call) {
        Edge.changesNothing(what, Edge::busy, call, Edge.UNKNOWN);
    }

    /** Handle 10 has what a kind makes of all eight variables in a row, handle 9 NOT of that. */
    private static DiagramBench allOf(int kind) {
        DiagramBench x = Edge.withVariables();
        x.share(10, 0);
        for (int v = 1; v < 8; v++) {
            x.combine(10, kind, 10, v);
        }
        x.combine(9, Edge.NOT, 10, 0);
        return x;
    }

    private static DiagramBench constants() {
        DiagramBench x = new DiagramBench();
        x.combine(0, Edge.NO, 0, 0);
        x.combine(1, Edge.YES, 0, 0);
        return x;
    }

    // ---- promises 19 to 30: refusals

    private static void handlesWithNothing() {
        for (int f : Edge.withNothing()) {
            unknown("nodes(" + f + ")", x -> x.nodes(f));
            unknown("common(" + f + ", 0)", x -> x.common(f, 0));
            unknown("common(0, " + f + ")", x -> x.common(0, f));
            unknown("common of " + f + " twice", x -> x.common(f, f));
            unknown("value(" + f + ", 0)", x -> x.value(f, 0));
            unknown("same(" + f + ", 0)", x -> x.same(f, 0));
            unknown("same(0, " + f + ")", x -> x.same(0, f));
            unknown("same of " + f + " twice", x -> x.same(f, f));
            unknown("count(" + f + ")", x -> x.count(f));
            unknown("support(" + f + ")", x -> x.support(f));
            unknown("top(" + f + ")", x -> x.top(f));
            unknown("level(" + f + ", 0)", x -> x.level(f, 0));
            unknown("least(" + f + ", true)", x -> x.least(f, true));
            unknown("least(" + f + ", false)", x -> x.least(f, false));
            unknown("paths(" + f + ", true)", x -> x.paths(f, true));
            unknown("paths(" + f + ", false)", x -> x.paths(f, false));
        }
    }

    private static void unknownAheadOfOutside() {
        for (int f : Edge.withNothing()) {
            unknown("value(" + f + ", 256)", x -> x.value(f, 256));
            unknown("value(" + f + ", -1)", x -> x.value(f, -1));
            unknown("level(" + f + ", 8)", x -> x.level(f, 8));
            unknown("level(" + f + ", -1)", x -> x.level(f, -1));
        }
    }

    private static void noAssignmentNoVariable() {
        for (int f : new int[] {0, 1, 2, 11}) {
            for (int s : Edge.beyond(256)) {
                Edge.changesNothing("value(" + f + ", " + s + ")", Edge::busy, x -> x.value(f, s), Edge.OUTSIDE);
            }
            for (int v : Edge.beyond(8)) {
                Edge.changesNothing("level(" + f + ", " + v + ")", Edge::busy, x -> x.level(f, v), Edge.OUTSIDE);
            }
        }
    }

    private static void tellingChangesNothing() {
        Edge.changesNothing("nodes", Edge::busy, x -> x.nodes(3), 3);
        Edge.changesNothing("inUse", Edge::busy, DiagramBench::inUse, 5);
        Edge.changesNothing("common", Edge::busy, x -> x.common(3, 11), 0);
        Edge.changesNothing("peak", Edge::busy, DiagramBench::peak, 5);
        Edge.changesNothing("value", Edge::busy, x -> x.value(3, 33), 0);
        Edge.changesNothing("same", Edge::busy, x -> x.same(3, 0), 0);
        Edge.changesNothing("count", Edge::busy, x -> x.count(3), 128);
        Edge.changesNothing("support", Edge::busy, x -> x.support(3), 33);
        Edge.changesNothing("top", Edge::busy, x -> x.top(3), 0);
        Edge.changesNothing("level", Edge::busy, x -> x.level(3, 5), 2);
        Edge.changesNothing("least", Edge::busy, x -> x.least(3, true), 32);
        Edge.changesNothing("paths", Edge::busy, x -> x.paths(3, false), 2);
    }

    // ---- promises 19 to 21

    private static void nodesFewAndMany() {
        DiagramBench x = Edge.busy();
        Due.due("YES", x.nodes(1), 0);
        Due.due("NO", x.nodes(2), 0);
        Due.due("x3", x.nodes(0), 1);
        Due.due("x7", x.nodes(11), 1);
        Due.due("AND of all", allOf(Edge.AND).nodes(10), 8);
        Due.due("OR of all", allOf(Edge.OR).nodes(10), 8);
        Due.due("XOR of all", allOf(Edge.XOR).nodes(10), 15);
    }

    private static void inUseOfNothing() {
        Due.due("new", new DiagramBench().inUse(), 0);
        Due.due("NO, YES", constants().inUse(), 0);
        DiagramBench x = Edge.withVariables();
        for (int v = 0; v < 8; v++) {
            Due.due("variables", x.inUse(), 8 - v);
            x.drop(v);
        }
        Due.due("none", x.inUse(), 0);
    }

    private static void inUseOfLikeOnes() {
        DiagramBench x = new DiagramBench();
        for (int h = 0; h < 12; h++) {
            x.variable(h, 5);
            Due.due("the same in " + (h + 1), x.inUse(), 1);
            Due.due("peak", x.peak(), 1);
        }
        x.drop(11);
        Due.due("one less", x.inUse(), 1);
        DiagramBench y = allOf(Edge.XOR);
        // Handle 9 has but its own first node more; of the variables x7 alone is a node of these.
        Due.due("XOR of all, NOT of it, variables", y.inUse(), 15 + 1 + 7);
    }

    private static void commonOfNone() {
        Due.due("NO, YES", constants().common(0, 1), 0);
        Due.due("YES, YES", constants().common(1, 1), 0);
        DiagramBench x = Edge.withVariables();
        Due.due("x0, x7", x.common(0, 7), 0);
        x.combine(8, Edge.NOT, 7, 0);
        Due.due("x7, NOT x7", x.common(7, 8), 0);
        Due.due("x0 and AND of all", allOf(Edge.AND).common(0, 10), 0);
    }

    private static void commonOfAll() {
        Due.due("x0, x0", Edge.withVariables().common(0, 0), 1);
        DiagramBench x = allOf(Edge.XOR);
        Due.due("itself", x.common(10, 10), 15);
        Due.due("NOT of it", x.common(10, 9), 14);
        Due.due("NOT of it, the other way", x.common(9, 10), 14);
        Due.due("x7", x.common(7, 10), 1);
        x.share(0, 10);
        Due.due("shared", x.common(0, 10), 15);
    }

    // ---- promise 22

    private static void peakAheadOfAny() {
        DiagramBench x = new DiagramBench();
        Due.due("new", x.peak(), 0);
        Edge.fillNet(x, 0);
        x.order(0);
        x.clear(0);
        x.move(0, 7);
        x.room(17);
        x.equal(0, 1);
        x.share(0, 1);
        x.drop(0);
        x.build(0, 0, 0);
        x.variable(0, 8);
        Due.due("ahead of any that made steps", x.peak(), 0);
    }

    private static void peakOfCallsWithoutSteps() {
        DiagramBench x = Edge.withVariables();
        for (int v = 1; v < 8; v++) {
            x.drop(v);
        }
        Due.due("of the last variable, behind drop", x.peak(), 8);
        x.gate(0, Edge.YES, 0, 0, 0);
        x.output(0, 0);
        x.gives(0, 0, 0);
        x.clear(0);
        x.at(0);
        x.room(100);
        x.share(1, 0);
        x.nodes(0);
        x.inUse();
        x.common(0, 1);
        x.value(0, 0);
        x.same(0, 1);
        x.count(0);
        x.support(0);
        x.top(0);
        x.level(0, 0);
        x.least(0, true);
        x.paths(0, true);
        x.parting(0);
        x.told(0);
        x.drop(0);
        x.drop(1);
        x.order(0);
        x.move(0, 1);
        Due.due("as it was", x.peak(), 8);
        Due.due("nets without outputs are like", x.equal(0, 1), 1);
        Due.due("no steps", x.peak(), 8);
    }

    private static void peakOfRefusedCalls() {
        DiagramBench x = Edge.withVariables();
        for (int v = 1; v < 8; v++) {
            x.drop(v);
        }
        x.build(0, 0, 0);
        x.variable(12, 0);
        x.variable(0, 8);
        x.combine(0, 10, 0, 0);
        x.combine(0, Edge.AND, 0, 1);
        x.choose(0, 0, 0, 1);
        x.restrict(0, 0, 8, true);
        x.quantify(0, 1, 0, true);
        x.compose(0, 0, 8, 0);
        x.equal(0, 3);
        Due.due("as it was", x.peak(), 8);
    }

    private static void peakOfOut() {
        for (int room = 0; room < 8; room++) {
            DiagramBench x = new DiagramBench();
            x.room(room);
            for (int v = 0; v < room; v++) {
                x.variable(v, v);
            }
            Due.due("all the room", x.peak(), room);
            Due.due("one more", x.variable(11, 7), Edge.OUT);
            Due.due("the room and 1", x.peak(), room + 1);
            x.room(250);
            Due.due("whatever the room is then", x.peak(), room + 1);
            Due.due("the same in that", x.variable(11, 7), 1);
            Due.due("in use then", x.peak(), room + 1);
        }
        // Of x0 x7 and XOR of all: 12 more at once, but the room and 1 is told however many are too many.
        Supplier<DiagramBench> made = () -> {
            DiagramBench x = allOf(Edge.XOR);
            x.combine(8, Edge.AND, 0, 7);
            return x;
        };
        for (int room = 24; room < 36; room++) {
            Edge.outIn("XOR of all AND x0 x7", made, x -> x.combine(11, Edge.AND, 10, 8), room);
        }
        Edge.takes("XOR of all AND x0 x7", made, x -> x.combine(11, Edge.AND, 10, 8), 36, 13);
    }

    private static void peakIsTheLatest() {
        DiagramBench x = allOf(Edge.XOR);
        int before = x.peak();
        for (int h = 0; h < 12; h++) {
            x.drop(h);
        }
        Due.due("as it was", x.peak(), before);
        x.combine(0, Edge.NO, 0, 0);
        Due.due("none", x.peak(), 0);
        x.variable(1, 1);
        Due.due("one", x.peak(), 1);
    }

    /** Handles 0 and 1 have x0 and x1, net 0 has x0; a call ahead of that had many more in use. */
    private static DiagramBench behindMany() {
        DiagramBench x = allOf(Edge.XOR);
        for (int h = 2; h < 12; h++) {
            x.drop(h);
        }
        x.output(0, x.gate(0, Edge.VARIABLE, 0, 0, 0));
        return x;
    }

    private static void peakBehindMany(String what, ToIntFunction<DiagramBench> call, int want) {
        DiagramBench x = behindMany();
        Due.due("behind many", x.peak(), 23);
        Due.holds(what, call.applyAsInt(x) >= 0);
        Due.due(what + ": peak of that alone", x.peak(), want);
    }

    private static void peakOfEachCallAlone() {
        peakBehindMany("build", x -> x.build(2, 0, 0), 2);
        peakBehindMany("variable", x -> x.variable(2, 2), 3);
        peakBehindMany("combine", x -> x.combine(2, Edge.AND, 0, 1), 3);
        peakBehindMany("choose", x -> x.choose(2, 0, 1, 1), 2);
        peakBehindMany("restrict", x -> x.restrict(2, 0, 0, true), 2);
        peakBehindMany("quantify", x -> x.quantify(2, 0, 0, true), 2);
        peakBehindMany("compose", x -> x.compose(2, 0, 0, 1), 2);
        peakBehindMany("equal", x -> x.equal(0, 0), 2);
    }

    /** The first of the steps has the most in use, not the last. */
    private static void peakOfEachStep() {
        DiagramBench x = new DiagramBench();
        x.gate(0, Edge.VARIABLE, 0, 0, 0);
        x.gate(0, Edge.VARIABLE, 1, 0, 0);
        x.gate(0, Edge.XOR, 0, 1, 0);
        x.gate(0, Edge.AND, 2, 0, 0);
        x.gate(0, Edge.XOR, 3, 3, 0);
        x.output(0, 4);
        Due.due("NO", x.build(0, 0, 0), 0);
        Due.due("in use at most", x.peak(), 5);
        Due.due("in use", x.inUse(), 0);
    }

    // ---- promises 23 to 25

    private static void valueFirstAndLast() {
        DiagramBench x = allOf(Edge.AND);
        Due.due("AND of all for 0", x.value(10, 0), 0);
        Due.due("AND of all for 254", x.value(10, 254), 0);
        Due.due("AND of all for 255", x.value(10, 255), 1);
        Due.due("NOT of it for 0", x.value(9, 0), 1);
        Due.due("NOT of it for 255", x.value(9, 255), 0);
        Due.due("NO for 255", constants().value(0, 255), 0);
        Due.due("YES for 0", constants().value(1, 0), 1);
        for (int v = 0; v < 8; v++) {
            for (int bit = 0; bit < 8; bit++) {
                Due.due("x" + v + " for bit " + bit, x.value(v, 1 << bit), v == bit ? 1 : 0);
            }
        }
    }

    private static void sameOfLikeAndUnlike() {
        Due.due("NO, YES", constants().same(0, 1), 0);
        Due.due("YES, NO", constants().same(1, 0), 0);
        Due.due("NO, NO", constants().same(0, 0), 1);
        DiagramBench x = allOf(Edge.AND);
        x.restrict(8, 10, 7, true);
        Due.due("unlike for one assignment", x.same(8, 10), 0);
        x.combine(8, Edge.AND, 8, 7);
        Due.due("made another way", x.same(8, 10), 1);
        x.combine(8, Edge.XOR, 10, 10);
        x.combine(11, Edge.NO, 0, 0);
        Due.due("NO and NO", x.same(8, 11), 1);
    }

    private static void countFewAndMany() {
        Due.due("NO", constants().count(0), 0);
        Due.due("YES", constants().count(1), 256);
        Due.due("AND of all", allOf(Edge.AND).count(10), 1);
        Due.due("NOT of that", allOf(Edge.AND).count(9), 255);
        Due.due("OR of all", allOf(Edge.OR).count(10), 255);
        Due.due("NOT of that", allOf(Edge.OR).count(9), 1);
        Due.due("XOR of all", allOf(Edge.XOR).count(10), 128);
    }

    // ---- promises 26 to 28

    private static void supportNoneAndAll() {
        Due.due("NO", constants().support(0), 0);
        Due.due("YES", constants().support(1), 0);
        Due.due("AND of all", allOf(Edge.AND).support(10), 255);
        DiagramBench x = Edge.withVariables();
        for (int v = 0; v < 8; v++) {
            Due.due("x" + v, x.support(v), 1 << v);
        }
        x.combine(8, Edge.XOR, 0, 7);
        x.combine(8, Edge.XOR, 8, 0);
        Due.due("x0 is made of no account", x.support(8), 128);
    }

    private static void topNoneFirstLast() {
        Due.due("NO", constants().top(0), Edge.NONE);
        Due.due("YES", constants().top(1), Edge.NONE);
        Due.due("AND of all", allOf(Edge.AND).top(10), 0);
        DiagramBench x = Edge.withVariables();
        for (int v = 0; v < 8; v++) {
            Due.due("x" + v, x.top(v), v);
        }
        DiagramBench y = new DiagramBench();
        y.move(7, 0);
        y.move(0, 7);
        y.variable(0, 0);
        y.variable(7, 7);
        y.combine(1, Edge.OR, 0, 7);
        Due.due("x7 is first in the order", y.top(1), 7);
        Due.due("x0 alone", y.top(0), 0);
    }

    private static void levelFirstAndLast() {
        DiagramBench x = allOf(Edge.XOR);
        Due.due("of x0", x.level(10, 0), 1);
        for (int v = 1; v < 8; v++) {
            Due.due("of x" + v, x.level(10, v), 2);
        }
        for (int v = 0; v < 8; v++) {
            Due.due("of NO", constants().level(0, v), 0);
            Due.due("of YES", constants().level(1, v), 0);
            Due.due("of x7", x.level(7, v), v == 7 ? 1 : 0);
        }
        DiagramBench y = new DiagramBench();
        y.move(7, 0);
        y.variable(0, 0);
        y.variable(7, 7);
        y.combine(1, Edge.XOR, 0, 7);
        Due.due("x7 is ahead of x0", y.level(1, 7), 1);
        Due.due("x0 is behind it", y.level(1, 0), 2);
    }

    // ---- promise 29

    private static void leastNone() {
        Due.due("yes of NO", constants().least(0, true), Edge.NONE);
        Due.due("no of YES", constants().least(1, false), Edge.NONE);
        Due.due("no of NO", constants().least(0, false), 0);
        Due.due("yes of YES", constants().least(1, true), 0);
    }

    private static void leastFirstAndLast() {
        Due.due("AND of all", allOf(Edge.AND).least(10, true), 255);
        Due.due("no of AND of all", allOf(Edge.AND).least(10, false), 0);
        Due.due("no of NOT of that", allOf(Edge.AND).least(9, false), 255);
        Due.due("OR of all: the last alone", allOf(Edge.OR).least(10, true), 128);
        Due.due("no of OR of all", allOf(Edge.OR).least(10, false), 0);
        DiagramBench x = Edge.withVariables();
        for (int v = 0; v < 8; v++) {
            Due.due("yes of x" + v, x.least(v, true), 1 << v);
            Due.due("no of x" + v, x.least(v, false), 0);
        }
    }

    private static void leastByTheOrder() {
        for (int last = 0; last < 8; last++) {
            DiagramBench x = new DiagramBench();
            x.move(last, 7);
            x.variable(0, 0);
            for (int v = 1; v < 8; v++) {
                x.variable(1, v);
                x.combine(0, Edge.OR, 0, 1);
            }
            Due.due("OR of all, x" + last + " at the last place", x.least(0, true), 1 << last);
        }
    }

    // ---- promise 30

    private static void pathsFewAndMany() {
        Due.due("NO to no", constants().paths(0, false), 1);
        Due.due("NO to yes", constants().paths(0, true), 0);
        Due.due("YES to yes", constants().paths(1, true), 1);
        Due.due("YES to no", constants().paths(1, false), 0);
        DiagramBench x = Edge.withVariables();
        for (int v = 0; v < 8; v += 7) {
            Due.due("x" + v + " to yes", x.paths(v, true), 1);
            Due.due("x" + v + " to no", x.paths(v, false), 1);
        }
        Due.due("AND of all to yes", allOf(Edge.AND).paths(10, true), 1);
        Due.due("AND of all to no", allOf(Edge.AND).paths(10, false), 8);
        Due.due("NOT of that to yes", allOf(Edge.AND).paths(9, true), 8);
        Due.due("NOT of that to no", allOf(Edge.AND).paths(9, false), 1);
        Due.due("XOR of all to yes", allOf(Edge.XOR).paths(10, true), 128);
        Due.due("XOR of all to no", allOf(Edge.XOR).paths(10, false), 128);
    }
}
