/** Promises 10 to 18: functions that handles get, and how many nodes that takes. */
public final class FunctionsTest {
    private static final int UNKNOWN = -1, OUTSIDE = -2, OUT = -5;
    private static final int NOT = 3, AND = 4, OR = 5, XOR = 6;

    public static void main(String[] args) {
        builds();
        buildNeedsOnlySomeGates();
        buildLetsGo();
        buildRefusals();
        buildOut();
        variables();
        combines();
        combineRefusals();
        combineOut();
        chooses();
        restricts();
        quantifies();
        quantifySteps();
        composes();
        composeSteps();
        ownHandle();
        shares();
        drops();
        Due.end();
    }

    private static DiagramBench withVariables() {
        DiagramBench x = new DiagramBench();
        for (int v = 0; v < 8; v++) {
            x.variable(v, v);
        }
        return x;
    }

    private static void builds() {
        DiagramBench x = new DiagramBench();
        x.gate(0, 0, 0, 0, 0);
        x.gate(0, 0, 1, 0, 0);
        x.gate(0, XOR, 0, 1, 0);
        x.gate(0, 2, 0, 0, 0);
        x.output(0, 2);
        x.output(0, 3);
        Due.due("build XOR", x.build(7, 0, 0), 3);
        Due.due("peak: x0, x1, XOR of both", x.peak(), 4);
        Due.due("in use then", x.inUse(), 3);
        for (int s = 0; s < 4; s++) {
            Due.due("value for " + s, x.value(7, s), (s ^ s >> 1) & 1);
        }
        Due.due("build YES", x.build(8, 0, 1), 0);
        Due.due("value of YES", x.value(8, 77), 1);
        Due.due("build instead of what it had", x.build(7, 0, 1), 0);
        Due.due("in use then", x.inUse(), 0);
        Due.due("what it had was in use till then", x.peak(), 3);
    }

    private static void buildNeedsOnlySomeGates() {
        DiagramBench x = new DiagramBench();
        for (int v = 0; v < 8; v++) {
            x.gate(0, 0, v, 0, 0);
        }
        x.gate(0, NOT, 5, 0, 0);
        x.gate(0, AND, 0, 7, 0);
        x.output(0, 8);
        Due.due("build NOT x5", x.build(0, 0, 0), 1);
        Due.due("x5 and NOT x5 alone", x.peak(), 2);
    }

    private static void buildLetsGo() {
        DiagramBench x = new DiagramBench();
        x.gate(0, 0, 0, 0, 0);       // 0: needed by 1 alone
        x.gate(0, NOT, 0, 0, 0);     // 1
        x.gate(0, 0, 1, 0, 0);       // 2: needed till the end
        x.gate(0, NOT, 2, 0, 0);     // 3
        x.gate(0, AND, 1, 3, 0);     // 4
        x.gate(0, OR, 4, 2, 0);      // 5: NOT x0 OR x1
        x.output(0, 5);
        x.room(4);
        Due.due("five would be in use, if none were let go", x.build(0, 0, 0), 2);
        Due.due("peak", x.peak(), 4);
        x.drop(0);
        x.room(3);
        Due.due("not in three", x.build(0, 0, 0), OUT);
        Due.due("peak", x.peak(), 4);
        Due.due("nothing", x.nodes(0), UNKNOWN);
    }

    private static void buildRefusals() {
        DiagramBench x = new DiagramBench();
        x.gate(2, 2, 0, 0, 0);
        x.output(2, 0);
        Due.due("no handle", x.build(12, 2, 0), UNKNOWN);
        Due.due("no handle", x.build(-1, 2, 0), UNKNOWN);
        Due.due("no net", x.build(0, 3, 0), UNKNOWN);
        Due.due("no net", x.build(0, -1, 0), UNKNOWN);
        Due.due("no output", x.build(0, 2, 1), UNKNOWN);
        Due.due("no output", x.build(0, 2, -1), UNKNOWN);
        Due.due("no output", x.build(0, 0, 0), UNKNOWN);
        Due.due("the last handle", x.build(11, 2, 0), 0);
    }

    private static void buildOut() {
        DiagramBench x = new DiagramBench();
        x.gate(0, 0, 0, 0, 0);
        x.gate(0, 0, 1, 0, 0);
        x.gate(0, XOR, 0, 1, 0);
        x.output(0, 2);
        x.variable(0, 7);
        x.variable(1, 1);
        x.room(4);
        Due.due("x7, x1; x0; XOR takes two more", x.build(0, 0, 0), OUT);
        Due.due("peak", x.peak(), 5);
        Due.due("the handle has what it had", x.support(0), 128);
        Due.due("in use", x.inUse(), 2);
        x.room(5);
        Due.due("room for it", x.build(0, 0, 0), 3);
        Due.due("peak", x.peak(), 5);
        Due.due("in use", x.inUse(), 3);
    }

    private static void variables() {
        DiagramBench x = new DiagramBench();
        Due.due("no handle", x.variable(-1, 0), UNKNOWN);
        Due.due("no handle", x.variable(12, 9), UNKNOWN);
        Due.due("no variable", x.variable(0, -1), OUTSIDE);
        Due.due("no variable", x.variable(0, 8), OUTSIDE);
        for (int v = 0; v < 8; v++) {
            Due.due("variable " + v, x.variable(v + 4, v), 1);
            Due.due("yes", x.value(v + 4, 1 << v), 1);
            Due.due("no", x.value(v + 4, 255 - (1 << v)), 0);
            Due.due("peak", x.peak(), v + 1);
        }
        x.room(8);
        Due.due("one more like one in use", x.variable(0, 3), 1);
        Due.due("instead of another", x.variable(4, 7), 1);
        Due.due("what it had was in use till then", x.peak(), 8);
        Due.due("in use", x.inUse(), 7);
        x.room(7);
        Due.due("what it has is in use till then", x.variable(5, 0), OUT);
        Due.due("peak", x.peak(), 8);
    }

    private static int made(int kind, int a, int b) {
        switch (kind) {
            case 1: return 0;
            case 2: return 1;
            case 3: return 1 - a;
            case 4: return a & b;
            case 5: return a | b;
            case 6: return a ^ b;
            case 7: return 1 - (a & b);
            case 8: return 1 - (a | b);
            default: return 1 - (a ^ b);
        }
    }

    private static void combines() {
        int[] nodes = {0, 0, 0, 1, 2, 2, 3, 2, 2, 3};
        for (int kind = 1; kind <= 9; kind++) {
            DiagramBench x = withVariables();
            Due.due("kind " + kind, x.combine(9, kind, 6, 2), nodes[kind]);
            Due.due("nodes", x.nodes(9), nodes[kind]);
            for (int s = 0; s < 256; s++) {
                Due.due("kind " + kind + " for " + s, x.value(9, s), made(kind, s >> 6 & 1, s >> 2 & 1));
            }
        }
    }

    private static void combineRefusals() {
        DiagramBench x = new DiagramBench();
        x.variable(0, 0);
        Due.due("no handle", x.combine(12, 1, 0, 0), UNKNOWN);
        Due.due("no handle, no kind", x.combine(-1, 0, 0, 0), UNKNOWN);
        Due.due("no kind: f, g not looked at", x.combine(1, 0, 99, -1), OUTSIDE);
        Due.due("no kind: f, g not looked at", x.combine(1, 10, 99, -1), OUTSIDE);
        Due.due("no kind", x.combine(1, -1, 0, 0), OUTSIDE);
        Due.due("NO: f, g not looked at", x.combine(1, 1, 99, -1), 0);
        Due.due("YES: f, g not looked at", x.combine(1, 2, 5, 6), 0);
        Due.due("NOT: g not looked at", x.combine(1, 3, 0, 99), 1);
        Due.due("NOT: f has nothing", x.combine(1, 3, 5, 0), UNKNOWN);
        Due.due("NOT: no f", x.combine(1, 3, 12, 0), UNKNOWN);
        for (int kind = 4; kind <= 9; kind++) {
            Due.due("f has nothing", x.combine(1, kind, 5, 0), UNKNOWN);
            Due.due("g has nothing", x.combine(1, kind, 0, 5), UNKNOWN);
            Due.due("no g", x.combine(1, kind, 0, -1), UNKNOWN);
        }
    }

    private static void combineOut() {
        DiagramBench x = withVariables();
        x.room(9);
        Due.due("XOR takes two more", x.combine(8, XOR, 0, 1), OUT);
        Due.due("peak", x.peak(), 10);
        Due.due("nothing", x.nodes(8), UNKNOWN);
        Due.due("again", x.combine(0, XOR, 0, 1), OUT);
        Due.due("the handle has what it had", x.nodes(0), 1);
        Due.due("AND takes one more", x.combine(8, AND, 0, 1), 2);
        Due.due("peak", x.peak(), 9);
        Due.due("the same again takes none", x.combine(9, AND, 1, 0), 2);
        Due.due("peak", x.peak(), 9);
    }

    private static void chooses() {
        DiagramBench x = withVariables();
        Due.due("x3 ? x1 : x5", x.choose(8, 3, 1, 5), 4);
        for (int s = 0; s < 256; s++) {
            Due.due("for " + s, x.value(8, s), (s >> 3 & 1) == 1 ? s >> 1 & 1 : s >> 5 & 1);
        }
        Due.due("all alike", x.choose(9, 3, 1, 1), 1);
        Due.due("no h", x.choose(12, 3, 1, 1), UNKNOWN);
        Due.due("f has nothing", x.choose(8, 11, 1, 1), UNKNOWN);
        Due.due("g has nothing", x.choose(8, 3, 11, 1), UNKNOWN);
        Due.due("k has nothing", x.choose(8, 3, 1, 11), UNKNOWN);
        Due.due("no k", x.choose(8, 3, 1, 12), UNKNOWN);
        x.drop(8);
        x.drop(9);
        x.room(10);
        Due.due("four nodes, x5 in use already", x.choose(8, 3, 1, 5), OUT);
        Due.due("peak", x.peak(), 11);
        x.room(11);
        Due.due("room for three", x.choose(8, 3, 1, 5), 4);
    }

    private static void restricts() {
        DiagramBench x = withVariables();
        x.choose(8, 3, 1, 5);
        Due.due("x3 yes", x.restrict(9, 8, 3, true), 1);
        Due.due("then x1", x.same(9, 1), 1);
        Due.due("x3 no", x.restrict(9, 8, 3, false), 1);
        Due.due("then x5", x.same(9, 5), 1);
        Due.due("x1 yes: x3 or x5", x.restrict(10, 8, 1, true), 2);
        x.combine(11, OR, 3, 5);
        Due.due("like it", x.same(10, 11), 1);
        Due.due("a variable that it does not hang on", x.restrict(10, 8, 7, true), 4);
        Due.due("like it", x.same(10, 8), 1);
        Due.due("of a variable itself", x.restrict(10, 0, 0, false), 0);
        Due.due("NO", x.count(10), 0);
        Due.due("no h", x.restrict(12, 8, 0, true), UNKNOWN);
        Due.due("no f", x.restrict(0, -1, 0, true), UNKNOWN);
        x.drop(11);
        Due.due("f has nothing, ahead of OUTSIDE", x.restrict(0, 11, 8, true), UNKNOWN);
        Due.due("no variable", x.restrict(0, 8, 8, true), OUTSIDE);
        Due.due("no variable", x.restrict(0, 8, -1, true), OUTSIDE);
        x.drop(9);
        x.drop(10);
        int used = x.inUse();
        x.room(used);
        Due.due("x5 yes takes two more", x.restrict(9, 8, 5, true), OUT);
        Due.due("peak", x.peak(), used + 1);
        Due.due("x3 yes takes none", x.restrict(9, 8, 3, true), 1);
        Due.due("peak", x.peak(), used);
    }

    private static void quantifies() {
        DiagramBench x = withVariables();
        x.choose(8, 3, 1, 5);
        Due.due("for both of x3", x.quantify(9, 8, 3, true), 2);
        x.combine(10, AND, 1, 5);
        Due.due("x1 AND x5", x.same(9, 10), 1);
        Due.due("for one of x3", x.quantify(9, 8, 3, false), 2);
        x.combine(10, OR, 1, 5);
        Due.due("x1 OR x5", x.same(9, 10), 1);
        Due.due("no h", x.quantify(-1, 8, 0, true), UNKNOWN);
        Due.due("f has nothing", x.quantify(0, 11, 9, true), UNKNOWN);
        Due.due("no f", x.quantify(0, 12, 0, true), UNKNOWN);
        Due.due("no variable", x.quantify(0, 8, 8, true), OUTSIDE);
        Due.due("no variable", x.quantify(0, 8, -1, false), OUTSIDE);
    }

    /** A handle with x0 ? (x1 AND x2) : (x1 OR x3), and no other one. */
    private static DiagramBench split() {
        DiagramBench x = withVariables();
        x.combine(8, AND, 1, 2);
        x.combine(9, OR, 1, 3);
        x.choose(10, 0, 8, 9);
        for (int h = 0; h < 12; h++) {
            if (h != 10) {
                x.drop(h);
            }
        }
        return x;
    }

    private static void quantifySteps() {
        DiagramBench x = split();
        Due.due("x0 node, x1 twice, x2, x3", x.inUse(), 5);
        Due.due("of x2: x0 ? x1 AND x2 for both: x0, x1, x3", x.quantify(0, 10, 2, true), 3);
        // For x2 being no: NOT x0 AND (x1 OR x3): a new node of x0. For it being yes: x0 ? x1 : (x1 OR x3): two more.
        Due.due("peak: both cofactors at hand", x.peak(), 8);
        x.drop(0);
        x.room(7);
        Due.due("not in seven", x.quantify(0, 10, 2, true), OUT);
        Due.due("peak", x.peak(), 8);
        Due.due("nothing", x.nodes(0), UNKNOWN);
        x.room(8);
        Due.due("in eight", x.quantify(0, 10, 2, true), 3);
        x.drop(0);
        x.room(5);
        Due.due("out at the first step", x.quantify(0, 10, 2, false), OUT);
        Due.due("peak", x.peak(), 6);
    }

    private static void composes() {
        DiagramBench x = withVariables();
        x.choose(8, 3, 1, 5);
        Due.due("x7 in the place of x3", x.compose(9, 8, 3, 7), 5);
        x.choose(10, 7, 1, 5);
        Due.due("x7 ? x1 : x5", x.same(9, 10), 1);
        Due.due("itself in the place of x1", x.compose(9, 8, 1, 8), 4);
        Due.due("like it", x.same(9, 8), 1);
        Due.due("of what it does not hang on", x.compose(9, 8, 0, 2), 4);
        Due.due("like it", x.same(9, 8), 1);
        x.combine(10, NOT, 0, 0);
        Due.due("NOT x0 in the place of x0", x.compose(9, 0, 0, 10), 1);
        Due.due("like it", x.same(9, 10), 1);
        Due.due("no h", x.compose(12, 8, 0, 0), UNKNOWN);
        Due.due("f has nothing", x.compose(9, 11, 0, 0), UNKNOWN);
        Due.due("g has nothing, ahead of OUTSIDE", x.compose(9, 8, 8, 11), UNKNOWN);
        Due.due("no g", x.compose(9, 8, 0, 12), UNKNOWN);
        Due.due("no variable", x.compose(9, 8, 8, 0), OUTSIDE);
        Due.due("no variable", x.compose(9, 8, -1, 0), OUTSIDE);
    }

    private static void composeSteps() {
        DiagramBench x = split();
        x.variable(11, 7);
        Due.due("in use", x.inUse(), 6);
        // f's for x2 being no takes one node of x0 more, for it being yes two; the choice by x7 two or three of its own.
        Due.due("x7 in the place of x2", x.compose(0, 10, 2, 11), 5);
        Due.due("peak", x.peak(), 11);
        x.drop(0);
        x.room(10);
        Due.due("not in ten", x.compose(0, 10, 2, 11), OUT);
        Due.due("peak", x.peak(), 11);
        Due.due("nothing", x.nodes(0), UNKNOWN);
        Due.due("in use", x.inUse(), 6);
    }

    private static void ownHandle() {
        DiagramBench x = withVariables();
        Due.due("into the handle of f", x.combine(0, XOR, 0, 1), 3);
        Due.due("peak: x0 was in use till then", x.peak(), 10);
        Due.due("in use", x.inUse(), 9);
        Due.due("into the handle of g", x.combine(1, XOR, 0, 1), 1);
        Due.due("x0 again", x.support(1), 1);
        Due.due("into the handle of f and g", x.combine(0, XOR, 0, 0), 0);
        Due.due("NO", x.count(0), 0);
        Due.due("into the handle of f", x.quantify(2, 2, 2, false), 0);
        Due.due("YES", x.count(2), 256);
    }

    private static void shares() {
        DiagramBench x = new DiagramBench();
        x.variable(0, 0);
        x.combine(0, NOT, 0, 0);
        int peak = x.peak();
        Due.due("share", x.share(3, 0), 1);
        Due.due("like it", x.same(3, 0), 1);
        Due.due("in use", x.inUse(), 1);
        Due.due("no step", x.peak(), peak);
        Due.due("with itself", x.share(0, 0), 1);
        x.drop(0);
        Due.due("it stays with the other", x.value(3, 0), 1);
        Due.due("from one with nothing", x.share(3, 0), UNKNOWN);
        Due.due("no f", x.share(3, 12), UNKNOWN);
        Due.due("no h", x.share(12, 3), UNKNOWN);
        Due.due("no h", x.share(-1, 3), UNKNOWN);
        Due.due("refused", x.value(3, 0), 1);
        x.room(1);
        Due.due("needs no room", x.share(4, 3), 1);
    }

    private static void drops() {
        DiagramBench x = new DiagramBench();
        Due.due("no handle", x.drop(-1), UNKNOWN);
        Due.due("no handle", x.drop(12), UNKNOWN);
        Due.due("it had nothing", x.drop(11), 0);
        x.combine(11, 1, 0, 0);
        Due.due("it had NO", x.drop(11), 1);
        Due.due("it had nothing", x.drop(11), 0);
        Due.due("nothing", x.nodes(11), UNKNOWN);
        x.variable(11, 4);
        int peak = x.peak();
        x.drop(11);
        Due.due("in use", x.inUse(), 0);
        Due.due("no step", x.peak(), peak);
    }
}
