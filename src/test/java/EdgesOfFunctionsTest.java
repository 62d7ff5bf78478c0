import java.util.function.Supplier;
import java.util.function.ToIntFunction;

/** The edges of promises 10 to 18: whose handle gets what, and whose nodes are in use meanwhile. */
public final class EdgesOfFunctionsTest {
    public static void main(String[] args) {
        buildUnknown();
        buildFirstAndLast();
        buildNeedsNoRoomForConstants();
        buildOutAtEachStep();
        buildOutInAHandleThatHas();
        buildLetsGoInARow();
        buildLetsGoOfA();
        buildLetsGoOfB();
        buildLetsGoOfC();
        buildOfEachOperand();
        buildKeepsWhatIsNeededLater();
        buildMakesNoOtherGates();
        variableRefused();
        variableFirstAndLast();
        variableTakes();
        combineUnknown();
        combineOutside();
        combineDoesNotLook();
        combineFirstAndLast();
        combineTakes();
        combineOfConstants();
        chooseUnknown();
        chooseFirstAndLast();
        chooseTakes();
        restrictRefused();
        restrictFirstAndLast();
        restrictTakes();
        quantifyRefused();
        quantifyFirstAndLast();
        quantifyTakes();
        composeRefused();
        composeFirstAndLast();
        composeTakes();
        whatAHandleHadStaysInUse();
        refusedAheadOfOut();
        shareUnknown();
        shareFirstAndLast();
        shareNeedsNoRoom();
        dropUnknown();
        dropFirstAndLast();
        dropSharedNodes();
        Due.end();
    }

    private static void unknown(String what, ToIntFunction<DiagramBench> call) {
        Edge.changesNothing(what, Edge::busy, call, Edge.UNKNOWN);
    }

    private static void outside(String what, ToIntFunction<DiagramBench> call) {
        Edge.changesNothing(what, Edge::busy, call, Edge.OUTSIDE);
    }

    private static void keepOnly(DiagramBench x, int... kept) {
        for (int h = 0; h < 12; h++) {
            boolean keep = false;
            for (int k : kept) {
                keep |= k == h;
            }
            if (!keep) {
                x.drop(h);
            }
        }
    }

    private static DiagramBench withTwo() {
        DiagramBench x = new DiagramBench();
        x.variable(0, 0);
        x.variable(1, 1);
        return x;
    }

    /** Handle 10 has what a kind makes of x0, x1, x2 in a row: 3 nodes. No other one has any. */
    private static DiagramBench row(int kind) {
        DiagramBench x = Edge.withVariables();
        x.combine(10, kind, 0, 1);
        x.combine(10, kind, 10, 2);
        keepOnly(x, 10);
        return x;
    }

    /** Handle 10 has x0 ? x1 : x2: 3 nodes. No other one has any. */
    private static DiagramBench chosen() {
        DiagramBench x = Edge.withVariables();
        x.choose(10, 0, 1, 2);
        keepOnly(x, 10);
        return x;
    }

    private static DiagramBench and(Supplier<DiagramBench> made, ToIntFunction<DiagramBench> then) {
        DiagramBench x = made.get();
        then.applyAsInt(x);
        return x;
    }

    // ---- promise 10

    private static void buildUnknown() {
        for (int h : Edge.beyond(12)) {
            unknown("build in handle " + h, x -> x.build(h, 1, 0));
        }
        for (int net : Edge.beyond(3)) {
            unknown("build of net " + net, x -> x.build(4, net, 0));
        }
        for (int output : Edge.beyond(2)) {
            unknown("build of output " + output + " of 2", x -> x.build(4, 1, output));
        }
        for (int output : Edge.beyond(4)) {
            unknown("build of output " + output + " of 4", x -> x.build(4, 0, output));
        }
        unknown("build of an empty net", x -> x.build(4, 2, 0));
        Edge.changesNothing("build of a net without outputs", () -> and(Edge::busy, x -> x.gate(2, Edge.YES, 0, 0, 0)),
                x -> x.build(4, 2, 0), Edge.UNKNOWN);
        Edge.changesNothing("build of a net that was cleared", () -> and(Edge::busy, x -> x.clear(1)),
                x -> x.build(4, 1, 0), Edge.UNKNOWN);
    }

    private static void buildFirstAndLast() {
        for (int h = 0; h < 12; h += 11) {
            for (int net = 0; net < 3; net += 2) {
                DiagramBench x = new DiagramBench();
                for (int o = 0; o < 4; o++) {
                    x.output(net, x.gate(net, Edge.VARIABLE, 2 * o, 0, 0));
                }
                for (int o = 0; o < 4; o += 3) {
                    Due.due("build(" + h + ", " + net + ", " + o + ")", x.build(h, net, o), 1);
                    Due.due("its support", x.support(h), 1 << 2 * o);
                    Due.due("one handle has any", x.told(6), 1);
                }
            }
        }
    }

    private static void buildNeedsNoRoomForConstants() {
        DiagramBench x = new DiagramBench();
        Edge.constantNet(x, 0, Edge.NO, Edge.YES);
        x.output(0, x.gate(0, Edge.XOR, 0, 1, 0));
        x.room(0);
        for (int o = 0; o < 3; o++) {
            Due.due("build of output " + o, x.build(o, 0, o), 0);
            Due.due("peak", x.peak(), 0);
            Due.due("count", x.count(o), o == 0 ? 0 : 256);
        }
    }

    private static DiagramBench xorNet() {
        DiagramBench x = new DiagramBench();
        x.gate(0, Edge.VARIABLE, 0, 0, 0);
        x.gate(0, Edge.VARIABLE, 1, 0, 0);
        x.output(0, x.gate(0, Edge.XOR, 0, 1, 0));
        return x;
    }

    private static void buildOutAtEachStep() {
        Edge.outIn("build, at x0", EdgesOfFunctionsTest::xorNet, x -> x.build(0, 0, 0), 0);
        Edge.outIn("build, at x1", EdgesOfFunctionsTest::xorNet, x -> x.build(0, 0, 0), 1);
        Edge.outIn("build, at the first node of XOR", EdgesOfFunctionsTest::xorNet, x -> x.build(0, 0, 0), 2);
        Edge.takes("build, at the second node of XOR", EdgesOfFunctionsTest::xorNet, x -> x.build(0, 0, 0), 4, 3);
    }

    private static void buildOutInAHandleThatHas() {
        Supplier<DiagramBench> made = () -> and(EdgesOfFunctionsTest::xorNet, x -> x.variable(5, 7));
        Edge.takes("build in the handle of x7", made, x -> x.build(5, 0, 0), 5, 3);
        Edge.takes("build beside x7", made, x -> x.build(4, 0, 0), 5, 3);
        Edge.takes("build in the handle of x1", () -> and(EdgesOfFunctionsTest::xorNet, x -> x.variable(5, 1)),
                x -> x.build(5, 0, 0), 4, 3);
    }

    private static Supplier<DiagramBench> netOf(int[]... gates) {
        return () -> {
            DiagramBench x = new DiagramBench();
            for (int[] g : gates) {
                x.gate(1, g[0], g[1], g.length > 2 ? g[2] : 0, g.length > 3 ? g[3] : 0);
            }
            x.output(1, gates.length - 1);
            return x;
        };
    }

    /** 13 nodes of XOR of seven, x7, and 14 of XOR of all eight, that has x7 too: all else has been let go. */
    private static void buildLetsGoInARow() {
        int[][] gates = new int[15][];
        for (int v = 0; v < 8; v++) {
            gates[v] = new int[] {Edge.VARIABLE, v};
        }
        for (int g = 8; g < 15; g++) {
            gates[g] = new int[] {Edge.XOR, g == 8 ? 0 : g - 1, g - 7};
        }
        Edge.takes("build of XOR, one by one", netOf(gates), x -> x.build(0, 1, 0), 28, 15);
    }

    /** x0 goes with the NOT of it; else four were in use at the end. */
    private static void buildLetsGoOfA() {
        Edge.takes("build, a is let go", netOf(new int[] {Edge.VARIABLE, 0}, new int[] {Edge.NOT, 0}, new int[] {Edge.VARIABLE, 1},
                new int[] {Edge.AND, 1, 2}), x -> x.build(0, 1, 0), 3, 2);
    }

    /** x1 goes with the NOR, x0 stays for the last gate: six at the AND, with x1 they were seven. */
    private static void buildLetsGoOfB() {
        Edge.takes("build, b is let go", netOf(new int[] {Edge.VARIABLE, 0}, new int[] {Edge.VARIABLE, 1}, new int[] {Edge.NOR, 0, 1},
                new int[] {Edge.VARIABLE, 2}, new int[] {Edge.AND, 3, 2}, new int[] {Edge.OR, 0, 4}),
                x -> x.build(0, 1, 0), 6, 3);
    }

    /** x0 goes with the choice, x1 and x2 stay: six at the choice and at x3, with x0 they were seven. */
    private static void buildLetsGoOfC() {
        Edge.takes("build, c is let go", netOf(new int[] {Edge.VARIABLE, 0}, new int[] {Edge.VARIABLE, 1}, new int[] {Edge.VARIABLE, 2},
                new int[] {Edge.IF, 1, 2, 0}, new int[] {Edge.VARIABLE, 3}, new int[] {Edge.XOR, 4, 4},
                new int[] {Edge.IF, 5, 1, 2}, new int[] {Edge.IF, 5, 3, 6}), x -> x.build(0, 1, 0), 6, 1);
    }

    private static void buildOfEachOperand() {
        for (int kind = 0; kind <= 10; kind++) {
            int of = kind;
            DiagramBench x = netOf(new int[] {Edge.VARIABLE, 1}, new int[] {Edge.VARIABLE, 2}, new int[] {Edge.VARIABLE, 4},
                    new int[] {of, 2, 1, 0}).get();
            x.build(11, 1, 0);
            for (int s = 0; s < 32; s++) {
                Due.due("kind " + kind + " for " + s, x.value(11, s), x.gives(1, 0, s));
            }
        }
    }

    /** x0 is needed by the gate ahead of the last one, x1 by the last one, x2 by one ahead of both. */
    private static void buildKeepsWhatIsNeededLater() {
        Supplier<DiagramBench> made = () -> {
            DiagramBench x = new DiagramBench();
            x.gate(1, Edge.VARIABLE, 0, 0, 0);
            x.gate(1, Edge.VARIABLE, 1, 0, 0);
            x.gate(1, Edge.VARIABLE, 2, 0, 0);
            x.gate(1, Edge.IF, 2, 2, 2);
            x.gate(1, Edge.XOR, 3, 3, 0);
            x.gate(1, Edge.OR, 0, 4, 0);
            x.gate(1, Edge.AND, 1, 5, 0);
            x.output(1, 6);
            return x;
        };
        Edge.takes("build: x0, x1, x2 at once", made, x -> x.build(0, 1, 0), 3, 2);
    }

    private static void buildMakesNoOtherGates() {
        Supplier<DiagramBench> made = () -> {
            DiagramBench x = new DiagramBench();
            for (int v = 0; v < 8; v++) {
                x.gate(0, Edge.VARIABLE, v, 0, 0);
            }
            x.gate(0, Edge.NOT, 3, 0, 0);
            x.output(0, 3);
            x.output(0, 7);
            x.output(0, 0);
            return x;
        };
        Edge.takes("build of a gate with others ahead of it and behind it", made, x -> x.build(0, 0, 0), 1, 1);
        Edge.takes("build of the last variable", made, x -> x.build(0, 0, 1), 1, 1);
        Edge.takes("build of the first gate", made, x -> x.build(0, 0, 2), 1, 1);
    }

    // ---- promise 11

    private static void variableRefused() {
        for (int h : Edge.beyond(12)) {
            unknown("variable in handle " + h, x -> x.variable(h, 0));
            unknown("variable in handle " + h + ", ahead of OUTSIDE", x -> x.variable(h, 8));
        }
        for (int v : Edge.beyond(8)) {
            outside("variable " + v, x -> x.variable(4, v));
            outside("variable " + v + " where one is", x -> x.variable(0, v));
        }
    }

    private static void variableFirstAndLast() {
        for (int h = 0; h < 12; h += 11) {
            for (int v = 0; v < 8; v += 7) {
                DiagramBench x = new DiagramBench();
                Due.due("variable(" + h + ", " + v + ")", x.variable(h, v), 1);
                Due.due("its support", x.support(h), 1 << v);
            }
        }
    }

    private static void variableTakes() {
        Edge.takes("the first variable", DiagramBench::new, x -> x.variable(0, 0), 1, 1);
        Edge.takes("a third one", EdgesOfFunctionsTest::withTwo, x -> x.variable(2, 2), 3, 1);
        Edge.takes("one in the place of another", EdgesOfFunctionsTest::withTwo, x -> x.variable(0, 2), 3, 1);
        DiagramBench x = withTwo();
        x.room(2);
        Due.due("one that is in use", x.variable(2, 1), 1);
        Due.due("one that is in use, in the place of another", x.variable(0, 1), 1);
        Due.due("in use", x.inUse(), 1);
    }

    // ---- promise 12

    private static void combineUnknown() {
        for (int h : Edge.beyond(12)) {
            for (int kind = 0; kind <= 10; kind++) {
                int of = kind;
                unknown("kind " + kind + " in handle " + h, x -> x.combine(h, of, 0, 0));
            }
        }
        for (int no : Edge.withNothing()) {
            for (int kind = 3; kind <= 9; kind++) {
                int of = kind;
                unknown("kind " + kind + " of f = " + no, x -> x.combine(5, of, no, 0));
                if (kind > 3) {
                    unknown("kind " + kind + " of g = " + no, x -> x.combine(5, of, 0, no));
                }
            }
        }
    }

    private static void combineOutside() {
        for (int kind : new int[] {0, 10, -1, 11, Integer.MIN_VALUE, Integer.MAX_VALUE}) {
            outside("combine of kind " + kind, x -> x.combine(5, kind, 0, 0));
            outside("combine of kind " + kind + ": f, g have nothing", x -> x.combine(5, kind, 4, 6));
            outside("combine of kind " + kind + ": no f, g", x -> x.combine(5, kind, -1, 12));
        }
    }

    private static void combineDoesNotLook() {
        for (int no : Edge.withNothing()) {
            Edge.answers("NO of " + no, Edge::busy, x -> x.combine(5, Edge.NO, no, no), 0);
            Edge.answers("YES of " + no, Edge::busy, x -> x.combine(5, Edge.YES, no, no), 0);
            Edge.answers("NOT of x3, g = " + no, Edge::busy, x -> x.combine(5, Edge.NOT, 0, no), 1);
        }
    }

    private static void combineFirstAndLast() {
        DiagramBench x = Edge.busy();
        Due.due("in handle 11, of 0 and 11", x.combine(11, Edge.AND, 0, 11), 2);
        Due.due("in handle 0, of 11 and 0", x.combine(0, Edge.OR, 11, 0), 1);
        Due.due("x3 again", x.support(0), 8);
    }

    /** Of x0, x1 with 2 nodes in use. */
    private static void combineTakes() {
        int[] most = {0, 0, 0, 3, 3, 3, 4, 4, 4, 4};
        int[] nodes = {0, 0, 0, 1, 2, 2, 3, 2, 2, 3};
        for (int kind = 3; kind <= 9; kind++) {
            int of = kind;
            Edge.takes("kind " + kind, EdgesOfFunctionsTest::withTwo, x -> x.combine(2, of, 0, 1), most[kind], nodes[kind]);
            Edge.takes("kind " + kind + " in the handle of f", EdgesOfFunctionsTest::withTwo,
                    x -> x.combine(0, of, 0, 1), most[kind], nodes[kind]);
            Edge.takes("kind " + kind + " in the handle of g", EdgesOfFunctionsTest::withTwo,
                    x -> x.combine(1, of, 0, 1), most[kind], nodes[kind]);
        }
        DiagramBench x = withTwo();
        x.room(2);
        Due.due("x0 AND x0", x.combine(2, Edge.AND, 0, 0), 1);
        Due.due("x0 XOR x0", x.combine(2, Edge.XOR, 0, 0), 0);
        Due.due("x0 LIKE x0", x.combine(2, Edge.LIKE, 0, 0), 0);
        Due.due("peak", x.peak(), 2);
        Due.due("x0 NAND x0", x.combine(2, Edge.NAND, 0, 0), Edge.OUT);
        Due.due("x0 NOR x0", x.combine(2, Edge.NOR, 0, 0), Edge.OUT);
    }

    private static void combineOfConstants() {
        for (int a = 0; a < 2; a++) {
            for (int b = 0; b < 2; b++) {
                DiagramBench x = new DiagramBench();
                x.room(0);
                x.combine(0, Edge.NO + a, 0, 0);
                x.combine(1, Edge.NO + b, 0, 0);
                int[] want = {0, 0, 1, 1 - a, a & b, a | b, a ^ b, 1 - (a & b), 1 - (a | b), 1 - (a ^ b)};
                for (int kind = 1; kind <= 9; kind++) {
                    Due.due("kind " + kind + " of " + a + ", " + b, x.combine(2, kind, 0, 1), 0);
                    Due.due("kind " + kind + " of " + a + ", " + b + " is yes", x.count(2), 256 * want[kind]);
                    Due.due("peak", x.peak(), 0);
                }
            }
        }
    }

    // ---- promise 13

    private static void chooseUnknown() {
        for (int h : Edge.beyond(12)) {
            unknown("choose in handle " + h, x -> x.choose(h, 0, 1, 2));
        }
        for (int no : Edge.withNothing()) {
            unknown("choose by " + no, x -> x.choose(5, no, 1, 2));
            unknown("choose " + no + " if", x -> x.choose(5, 0, no, 2));
            unknown("choose " + no + " else", x -> x.choose(5, 0, 1, no));
            unknown("choose of " + no, x -> x.choose(5, no, no, no));
        }
        unknown("choose by YES looks at k too", x -> x.choose(5, 1, 0, 4));
        unknown("choose by NO looks at g too", x -> x.choose(5, 2, 4, 0));
    }

    private static void chooseFirstAndLast() {
        DiagramBench x = Edge.busy();
        Due.due("by YES", x.choose(11, 1, 0, 11), 1);
        Due.due("x3", x.same(11, 0), 1);
        Due.due("by NO", x.choose(0, 2, 11, 3), 3);
        Due.due("x0 XOR x5", x.same(0, 3), 1);
        Due.due("YES if, else NO", x.choose(4, 3, 1, 2), 3);
        Due.due("itself", x.same(4, 3), 1);
        Due.due("NO if, else YES", x.choose(4, 11, 2, 1), 1);
        Due.due("NOT x3", x.count(4), 128);
        Due.due("NOT x3", x.value(4, 8), 0);
    }

    private static void chooseTakes() {
        Supplier<DiagramBench> made = () -> and(EdgesOfFunctionsTest::withTwo, x -> x.variable(2, 2));
        Edge.takes("x0 ? x1 : x2", made, x -> x.choose(3, 0, 1, 2), 4, 3);
        Edge.takes("x0 ? x1 : x2 in the handle of x2", made, x -> x.choose(2, 0, 1, 2), 4, 3);
        Edge.takes("x0 ? x2 : x1", made, x -> x.choose(3, 0, 2, 1), 4, 3);
        // x2 asks behind the others: x0 has x1 AND NOT x2 below it, and x1 OR x2.
        Edge.takes("x2 ? x0 : x1", made, x -> x.choose(3, 2, 0, 1), 7, 5);
        DiagramBench x = made.get();
        x.room(3);
        Due.due("x0 ? x1 : x1", x.choose(4, 0, 1, 1), 1);
        Due.due("x1 ? x1 : x1", x.choose(5, 1, 1, 1), 1);
        Due.due("peak", x.peak(), 3);
    }

    // ---- promise 14

    private static void restrictRefused() {
        for (int h : Edge.beyond(12)) {
            unknown("restrict in handle " + h, x -> x.restrict(h, 0, 0, true));
            unknown("restrict in handle " + h + ", ahead of OUTSIDE", x -> x.restrict(h, 0, 8, true));
        }
        for (int no : Edge.withNothing()) {
            unknown("restrict of " + no, x -> x.restrict(5, no, 0, false));
            unknown("restrict of " + no + ", ahead of OUTSIDE", x -> x.restrict(5, no, -1, false));
        }
        for (int v : Edge.beyond(8)) {
            outside("restrict for variable " + v + " being yes", x -> x.restrict(5, 0, v, true));
            outside("restrict for variable " + v + " being no", x -> x.restrict(5, 1, v, false));
        }
    }

    private static void restrictFirstAndLast() {
        for (int v = 0; v < 8; v += 7) {
            DiagramBench x = Edge.withVariables();
            Due.due("itself being yes", x.restrict(11, v, v, true), 0);
            Due.due("YES", x.count(11), 256);
            Due.due("itself being no", x.restrict(0, v, v, false), 0);
            Due.due("NO", x.count(0), 0);
            Due.due("another one", x.restrict(11, 3, v, true), 1);
            Due.due("as it was", x.same(11, 3), 1);
            x.combine(11, Edge.YES, 0, 0);
            Due.due("of YES", x.restrict(11, 11, v, false), 0);
            Due.due("YES", x.count(11), 256);
        }
    }

    private static void restrictTakes() {
        Edge.takes("x0 AND x1 AND x2 for x1", () -> row(Edge.AND), x -> x.restrict(3, 10, 1, true), 4, 2);
        Edge.takes("x0 AND x1 AND x2 for x1, where it was", () -> row(Edge.AND), x -> x.restrict(10, 10, 1, true), 4, 2);
        Edge.takes("x0 OR x1 OR x2 for not x1", () -> row(Edge.OR), x -> x.restrict(3, 10, 1, false), 4, 2);
        DiagramBench x = row(Edge.AND);
        x.room(3);
        Due.due("for x0: a part of it", x.restrict(0, 10, 0, true), 2);
        Due.due("for not x1: NO", x.restrict(1, 10, 1, false), 0);
        Due.due("for what it does not hang on", x.restrict(2, 10, 7, true), 3);
        Due.due("peak", x.peak(), 3);
    }

    // ---- promise 15

    private static void quantifyRefused() {
        for (int h : Edge.beyond(12)) {
            unknown("quantify in handle " + h, x -> x.quantify(h, 0, 0, true));
            unknown("quantify in handle " + h + ", ahead of OUTSIDE", x -> x.quantify(h, 0, 8, false));
        }
        for (int no : Edge.withNothing()) {
            unknown("quantify of " + no, x -> x.quantify(5, no, 0, true));
            unknown("quantify of " + no + ", ahead of OUTSIDE", x -> x.quantify(5, no, 8, false));
        }
        for (int v : Edge.beyond(8)) {
            outside("quantify for both of variable " + v, x -> x.quantify(5, 0, v, true));
            outside("quantify for one of variable " + v, x -> x.quantify(5, 2, v, false));
        }
    }

    private static void quantifyFirstAndLast() {
        for (int v = 0; v < 8; v += 7) {
            DiagramBench x = Edge.withVariables();
            Due.due("itself for both", x.quantify(11, v, v, true), 0);
            Due.due("NO", x.count(11), 0);
            Due.due("itself for one", x.quantify(0, v, v, false), 0);
            Due.due("YES", x.count(0), 256);
            Due.due("another one for both", x.quantify(11, 3, v, true), 1);
            Due.due("as it was", x.same(11, 3), 1);
            Due.due("another one for one", x.quantify(11, 4, v, false), 1);
            Due.due("as it was", x.same(11, 4), 1);
        }
    }

    private static void quantifyTakes() {
        Edge.takes("quantify, out at f's for no", () -> row(Edge.OR), x -> x.quantify(3, 10, 1, true), 4, 2);
        Edge.takes("quantify, out at f's for yes", () -> row(Edge.AND), x -> x.quantify(3, 10, 1, true), 4, 0);
        Edge.takes("quantify for one, out at f's for yes", () -> row(Edge.AND), x -> x.quantify(3, 10, 1, false), 4, 2);
        Edge.takes("quantify, out at AND", EdgesOfFunctionsTest::chosen, x -> x.quantify(3, 10, 0, true), 4, 2);
        Edge.takes("quantify, out at OR", EdgesOfFunctionsTest::chosen, x -> x.quantify(3, 10, 0, false), 4, 2);
        Edge.takes("quantify, out at OR, where it was", EdgesOfFunctionsTest::chosen, x -> x.quantify(10, 10, 0, false), 4, 2);
        // Of x0 XOR x1 XOR x2 (5 nodes) for x2: x0 XOR x1 (3: x1 and NOT x1 are new too), NOT of it (1 more); NO.
        Supplier<DiagramBench> xors = () -> row(Edge.XOR);
        Edge.outIn("quantify, out at the first", xors, x -> x.quantify(3, 10, 2, true), 7);
        Edge.takes("quantify, both at hand", xors, x -> x.quantify(3, 10, 2, true), 9, 0);
        Edge.takes("quantify for one, both at hand", xors, x -> x.quantify(3, 10, 2, false), 9, 0);
    }

    // ---- promise 16

    private static void composeRefused() {
        for (int h : Edge.beyond(12)) {
            unknown("compose in handle " + h, x -> x.compose(h, 0, 0, 1));
            unknown("compose in handle " + h + ", ahead of OUTSIDE", x -> x.compose(h, 0, 8, 1));
        }
        for (int no : Edge.withNothing()) {
            unknown("compose of f = " + no, x -> x.compose(5, no, 0, 1));
            unknown("compose of g = " + no, x -> x.compose(5, 0, 0, no));
            unknown("compose of f = " + no + ", ahead of OUTSIDE", x -> x.compose(5, no, -1, 1));
            unknown("compose of g = " + no + ", ahead of OUTSIDE", x -> x.compose(5, 0, 8, no));
            unknown("compose of g = " + no + " in f that hangs on nothing", x -> x.compose(5, 1, 0, no));
        }
        for (int v : Edge.beyond(8)) {
            outside("compose for variable " + v, x -> x.compose(5, 0, v, 1));
        }
    }

    private static void composeFirstAndLast() {
        for (int v = 0; v < 8; v += 7) {
            DiagramBench x = Edge.withVariables();
            Due.due("x3 in its place", x.compose(11, v, v, 3), 1);
            Due.due("x3", x.same(11, 3), 1);
            Due.due("itself in its place", x.compose(11, v, v, v), 1);
            Due.due("itself", x.same(11, v), 1);
            Due.due("in the place of what it does not hang on", x.compose(11, 4, v, 5), 1);
            Due.due("as it was", x.same(11, 4), 1);
            x.combine(10, Edge.YES, 0, 0);
            Due.due("YES in its place", x.compose(0, v, v, 10), 0);
            Due.due("YES", x.count(0), 256);
        }
    }

    private static void composeTakes() {
        Supplier<DiagramBench> ors = () -> and(() -> row(Edge.OR), x -> x.combine(0, Edge.YES, 0, 0));
        Edge.takes("compose, out at f's for no", ors, x -> x.compose(3, 10, 1, 0), 4, 0);
        Supplier<DiagramBench> ands = () -> and(() -> row(Edge.AND), x -> x.combine(0, Edge.NO, 0, 0));
        Edge.takes("compose, out at f's for yes", ands, x -> x.compose(3, 10, 1, 0), 4, 0);
        // x3 ? x1 : x2 is x1 ? (x2 OR x3) : (x2 AND NOT x3): four nodes and x3.
        Supplier<DiagramBench> chosen = () -> and(EdgesOfFunctionsTest::chosen, x -> x.variable(0, 3));
        Edge.takes("compose, out at the choice", chosen, x -> x.compose(5, 10, 0, 0), 8, 5);
        Edge.takes("compose in f's handle", chosen, x -> x.compose(10, 10, 0, 0), 8, 5);
        Edge.takes("compose in g's handle", chosen, x -> x.compose(0, 10, 0, 0), 8, 5);
        DiagramBench x = chosen.get();
        x.room(4);
        Due.due("of what it does not hang on", x.compose(5, 10, 7, 0), 3);
        Due.due("peak", x.peak(), 4);
    }

    // ---- promises 10 to 16

    private static void whatAHandleHadStaysInUse() {
        Supplier<DiagramBench> made = () -> and(EdgesOfFunctionsTest::xorNet, x -> x.variable(5, 7));
        Edge.takes("variable where x7 was", made, x -> x.variable(5, 6), 2, 1);
        Edge.takes("NOT where x7 was", made, x -> x.combine(5, Edge.NOT, 5, 0), 2, 1);
        DiagramBench x = made.get();
        Due.due("NO where x7 was", x.combine(5, Edge.NO, 0, 0), 0);
        Due.due("x7 was in use till then", x.peak(), 1);
        Due.due("and is not any more", x.inUse(), 0);
        Due.due("YES where NO was", x.combine(5, Edge.YES, 0, 0), 0);
        Due.due("peak", x.peak(), 0);
    }

    /** No node more has room, but what is refused is not made. */
    private static void refusedAheadOfOut() {
        Supplier<DiagramBench> tight = () -> and(Edge::busy, x -> x.room(5));
        Edge.changesNothing("build", tight, x -> x.build(4, 0, 4), Edge.UNKNOWN);
        Edge.changesNothing("variable", tight, x -> x.variable(12, 1), Edge.UNKNOWN);
        Edge.changesNothing("variable", tight, x -> x.variable(4, 8), Edge.OUTSIDE);
        Edge.changesNothing("combine", tight, x -> x.combine(12, Edge.NOT, 0, 0), Edge.UNKNOWN);
        Edge.changesNothing("combine", tight, x -> x.combine(4, 0, 0, 0), Edge.OUTSIDE);
        Edge.changesNothing("choose", tight, x -> x.choose(4, 0, 2, 5), Edge.UNKNOWN);
        Edge.changesNothing("restrict", tight, x -> x.restrict(4, 3, 8, true), Edge.OUTSIDE);
        Edge.changesNothing("quantify", tight, x -> x.quantify(4, 3, 8, true), Edge.OUTSIDE);
        Edge.changesNothing("compose", tight, x -> x.compose(4, 3, 8, 0), Edge.OUTSIDE);
        Edge.changesNothing("compose", tight, x -> x.compose(4, 3, 0, 5), Edge.UNKNOWN);
        Edge.outIn("NOT", Edge::busy, x -> x.combine(4, Edge.NOT, 0, 0), 5);
    }

    // ---- promise 17

    private static void shareUnknown() {
        for (int h : Edge.beyond(12)) {
            unknown("share in handle " + h, x -> x.share(h, 0));
        }
        for (int no : Edge.withNothing()) {
            unknown("share of " + no, x -> x.share(5, no));
            unknown("share of " + no + " where x3 is", x -> x.share(0, no));
        }
        unknown("share of what has nothing with itself", x -> x.share(4, 4));
    }

    private static void shareFirstAndLast() {
        DiagramBench x = Edge.busy();
        Due.due("share(11, 0)", x.share(11, 0), 1);
        Due.due("x3", x.same(11, 0), 1);
        Due.due("x7 is in use no more", x.inUse(), 4);
        Due.due("share(0, 3)", x.share(0, 3), 1);
        Due.due("x3 stays where it was shared", x.support(11), 8);
        Due.due("YES", x.share(4, 1), 1);
        Due.due("YES", x.count(4), 256);
        Due.due("no step", x.peak(), 5);
        Edge.changesNothing("with itself", Edge::busy, y -> y.share(0, 0), 1);
    }

    private static void shareNeedsNoRoom() {
        DiagramBench x = Edge.busy();
        x.room(5);
        for (int h = 4; h < 11; h++) {
            Due.due("share(" + h + ", 3)", x.share(h, 3), 1);
        }
        Due.due("all handles have", x.told(6), 12);
        Due.due("in use", x.inUse(), 5);
        Due.due("no step", x.peak(), 5);
    }

    // ---- promise 18

    private static void dropUnknown() {
        for (int h : Edge.beyond(12)) {
            unknown("drop(" + h + ")", x -> x.drop(h));
        }
    }

    private static void dropFirstAndLast() {
        for (int h = 4; h < 11; h++) {
            int of = h;
            Edge.changesNothing("drop(" + h + "): it had nothing", Edge::busy, x -> x.drop(of), 0);
        }
        DiagramBench x = Edge.busy();
        int[] having = {0, 1, 2, 3, 11};
        int[] used = {4, 4, 4, 1, 0};
        for (int i = 0; i < 5; i++) {
            Due.due("drop(" + having[i] + ")", x.drop(having[i]), 1);
            Due.due("in use then", x.inUse(), used[i]);
            Due.due("handles then", x.told(6), 4 - i);
            Due.due("nothing", x.nodes(having[i]), Edge.UNKNOWN);
            Due.due("drop(" + having[i] + ") again", x.drop(having[i]), 0);
        }
        Due.due("no step", x.peak(), 5);
    }

    private static void dropSharedNodes() {
        DiagramBench x = Edge.busy();
        x.share(4, 3);
        x.drop(3);
        Due.due("the other has it still", x.nodes(4), 3);
        Due.due("in use", x.inUse(), 5);
        x.drop(4);
        Due.due("in use", x.inUse(), 2);
    }
}
