import java.util.ArrayList;
import java.util.List;

/** The edges of promises 6 to 9: the order and the room. */
public final class EdgesOfOrderTest {
    public static void main(String[] args) {
        orderOfNoNet();
        orderOfEmptyNet();
        orderOfNetWithoutOutputs();
        orderOfConstants();
        orderOfAllVariables();
        orderOfOneVariableTwice();
        orderOfGateMetTwice();
        orderOfDeepestNet();
        orderWhileAHandleHas();
        orderBehindOut();
        moveOutside();
        moveOutsideAheadOfState();
        moveWhileAHandleHas();
        movesFromEachToEach();
        atOutside();
        atFirstAndLast();
        roomOutside();
        roomOutsideAheadOfState();
        roomFirstAndLast();
        roomLessThanInUse();
        roomAsManyAsInUse();
        roomOfConstants();
        Due.end();
    }

    private static void orderIs(String what, DiagramBench x, int... variables) {
        for (int place = 0; place < 8; place++) {
            Due.due(what + ": at(" + place + ")", x.at(place), variables[place]);
        }
    }

    private static DiagramBench moved() {
        DiagramBench x = new DiagramBench();
        x.move(7, 0);
        x.move(3, 5);
        return x;
    }

    private static DiagramBench movedWith(int h, int kind) {
        DiagramBench x = moved();
        x.combine(h, kind, 0, 0);
        return x;
    }

    // ---- promise 6

    private static void orderOfNoNet() {
        for (int net : Edge.beyond(3)) {
            Edge.changesNothing("order(" + net + ")", EdgesOfOrderTest::moved, x -> x.order(net), Edge.UNKNOWN);
            Edge.changesNothing("order(" + net + "), ahead of STATE", Edge::busy, x -> x.order(net), Edge.UNKNOWN);
        }
    }

    private static void orderOfEmptyNet() {
        for (int net = 0; net < 3; net++) {
            DiagramBench x = moved();
            Due.due("order of an empty net", x.order(net), 0);
            orderIs("by numbers", x, 0, 1, 2, 3, 4, 5, 6, 7);
        }
    }

    private static void orderOfNetWithoutOutputs() {
        DiagramBench x = moved();
        x.gate(1, Edge.VARIABLE, 5, 0, 0);
        Due.due("order of a net without outputs", x.order(1), 0);
        orderIs("by numbers", x, 0, 1, 2, 3, 4, 5, 6, 7);
    }

    private static void orderOfConstants() {
        DiagramBench x = moved();
        x.gate(1, Edge.VARIABLE, 5, 0, 0);
        Edge.constantNet(x, 1, Edge.NO, Edge.YES);
        Due.due("NO and YES are told of nothing", x.order(1), 0);
        orderIs("by numbers", x, 0, 1, 2, 3, 4, 5, 6, 7);
    }

    private static void orderOfAllVariables() {
        DiagramBench x = new DiagramBench();
        for (int v = 0; v < 8; v++) {
            x.gate(2, Edge.VARIABLE, v, 0, 0);
        }
        x.gate(2, Edge.IF, 7, 6, 5);
        x.gate(2, Edge.IF, 4, 3, 2);
        x.gate(2, Edge.XOR, 1, 0, 0);
        x.gate(2, Edge.IF, 8, 9, 10);
        x.output(2, 11);
        Due.due("all are met", x.order(2), 8);
        orderIs("all met, from the last", x, 7, 6, 5, 4, 3, 2, 1, 0);
        x.clear(2);
        for (int v = 3; v >= 0; v--) {
            x.output(2, x.gate(2, Edge.VARIABLE, 2 * v + 1, 0, 0));
        }
        Due.due("outputs in order", x.order(2), 4);
        orderIs("the others by numbers", x, 7, 5, 3, 1, 0, 2, 4, 6);
    }

    private static void orderOfOneVariableTwice() {
        DiagramBench x = new DiagramBench();
        x.gate(0, Edge.VARIABLE, 6, 0, 0);
        x.gate(0, Edge.VARIABLE, 6, 0, 0);
        x.gate(0, Edge.VARIABLE, 2, 0, 0);
        x.gate(0, Edge.IF, 0, 1, 2);
        x.output(0, 3);
        Due.due("a variable of two gates is met once", x.order(0), 2);
        orderIs("twice", x, 6, 2, 0, 1, 3, 4, 5, 7);
    }

    private static void orderOfGateMetTwice() {
        DiagramBench x = new DiagramBench();
        x.gate(0, Edge.VARIABLE, 4, 0, 0);
        x.gate(0, Edge.VARIABLE, 1, 0, 0);
        x.gate(0, Edge.OR, 0, 0, 0);
        x.gate(0, Edge.AND, 1, 2, 0);
        x.output(0, 2);
        x.output(0, 2);
        x.output(0, 3);
        x.output(0, 0);
        Due.due("a gate is gone into once", x.order(0), 2);
        orderIs("once", x, 4, 1, 0, 2, 3, 5, 6, 7);
        Due.due("the same again", x.order(0), 2);
        orderIs("again", x, 4, 1, 0, 2, 3, 5, 6, 7);
    }

    /** 40 gates, each told of the one before it: the first is met behind all others. */
    private static void orderOfDeepestNet() {
        DiagramBench x = new DiagramBench();
        x.gate(0, Edge.VARIABLE, 7, 0, 0);
        x.gate(0, Edge.VARIABLE, 3, 0, 0);
        x.gate(0, Edge.AND, 0, 1, 0);
        for (int g = 3; g < 40; g++) {
            x.gate(0, Edge.NOT, g - 1, 0, 0);
        }
        x.output(0, 39);
        Due.due("the deepest net", x.order(0), 2);
        orderIs("the deepest net", x, 7, 3, 0, 1, 2, 4, 5, 6);
    }

    private static void orderWhileAHandleHas() {
        for (int h = 0; h < 12; h++) {
            int of = h;
            for (int kind = Edge.NO; kind <= Edge.YES; kind++) {
                int what = kind;
                Edge.changesNothing("order while " + h + " has", () -> movedWith(of, what), x -> x.order(0), Edge.STATE);
            }
            Edge.answers("order when " + h + " has nothing again", () -> {
                DiagramBench x = movedWith(of, Edge.YES);
                x.drop(of);
                return x;
            }, x -> x.order(0), 0);
        }
        Edge.changesNothing("order of a full net", Edge::busy, x -> x.order(0), Edge.STATE);
    }

    private static void orderBehindOut() {
        DiagramBench x = moved();
        x.room(0);
        Due.due("out", x.variable(0, 0), Edge.OUT);
        Due.due("no handle has any", x.order(0), 0);
        Due.due("out", x.variable(0, 0), Edge.OUT);
        Due.due("no handle has any", x.move(7, 0), 7);
    }

    // ---- promise 7

    private static void moveOutside() {
        for (int no : Edge.beyond(8)) {
            Edge.changesNothing("move(" + no + ", 0)", EdgesOfOrderTest::moved, x -> x.move(no, 0), Edge.OUTSIDE);
            Edge.changesNothing("move(0, " + no + ")", EdgesOfOrderTest::moved, x -> x.move(0, no), Edge.OUTSIDE);
            Edge.changesNothing("move(" + no + ", " + no + ")", EdgesOfOrderTest::moved, x -> x.move(no, no), Edge.OUTSIDE);
        }
    }

    private static void moveOutsideAheadOfState() {
        for (int no : Edge.beyond(8)) {
            Edge.changesNothing("move(" + no + ", 7)", Edge::busy, x -> x.move(no, 7), Edge.OUTSIDE);
            Edge.changesNothing("move(7, " + no + ")", Edge::busy, x -> x.move(7, no), Edge.OUTSIDE);
        }
    }

    private static void moveWhileAHandleHas() {
        for (int h = 0; h < 12; h++) {
            int of = h;
            Edge.changesNothing("move while " + h + " has", () -> movedWith(of, Edge.NO), x -> x.move(0, 7), Edge.STATE);
        }
        Edge.changesNothing("move to where it is", () -> movedWith(0, Edge.YES), x -> x.move(7, 0), Edge.STATE);
    }

    private static void movesFromEachToEach() {
        for (int variable = 0; variable < 8; variable++) {
            for (int place = 0; place < 8; place++) {
                List<Integer> due = new ArrayList<>(List.of(7, 0, 1, 2, 4, 3, 5, 6));
                DiagramBench x = new DiagramBench();
                x.move(7, 0);
                x.move(4, 4);
                x.move(3, 5);
                int had = due.indexOf(variable);
                Due.due("move(" + variable + ", " + place + ")", x.move(variable, place), had);
                due.remove(had);
                due.add(place, variable);
                for (int p = 0; p < 8; p++) {
                    Due.due("move(" + variable + ", " + place + "): at(" + p + ")", x.at(p), due.get(p));
                }
            }
        }
    }

    // ---- promise 8

    private static void atOutside() {
        for (int place : Edge.beyond(8)) {
            Edge.changesNothing("at(" + place + ")", Edge::busy, x -> x.at(place), Edge.OUTSIDE);
        }
    }

    private static void atFirstAndLast() {
        Edge.changesNothing("at(0)", Edge::busy, x -> x.at(0), 6);
        Edge.changesNothing("at(7)", Edge::busy, x -> x.at(7), 1);
    }

    // ---- promise 9

    private static void roomOutside() {
        for (int n : Edge.beyond(251)) {
            Edge.changesNothing("room(" + n + ")", DiagramBench::new, x -> x.room(n), Edge.OUTSIDE);
        }
    }

    private static void roomOutsideAheadOfState() {
        for (int n : Edge.beyond(251)) {
            Edge.changesNothing("room(" + n + ")", Edge::busy, x -> x.room(n), Edge.OUTSIDE);
        }
    }

    private static void roomFirstAndLast() {
        DiagramBench x = new DiagramBench();
        Due.due("room(0)", x.room(0), 250);
        Due.due("told", x.told(7), 0);
        Due.due("room(0) again", x.room(0), 0);
        Due.due("room(250)", x.room(250), 0);
        Due.due("told", x.told(7), 250);
        Due.due("room(250) again", x.room(250), 250);
        Due.due("room(249)", x.room(249), 250);
        Due.due("room(1)", x.room(1), 249);
    }

    private static void roomLessThanInUse() {
        for (int n = 0; n < 5; n++) {
            int less = n;
            Edge.changesNothing("room(" + n + ") of 5", Edge::busy, x -> x.room(less), Edge.STATE);
        }
    }

    private static void roomAsManyAsInUse() {
        DiagramBench x = Edge.busy();
        Due.due("room(5)", x.room(5), 9);
        Due.due("told", x.told(7), 5);
        Due.due("one more is out", x.variable(4, 1), Edge.OUT);
        Due.due("room(5) behind it", x.room(5), 5);
        Due.due("room(4)", x.room(4), Edge.STATE);
        Due.due("one less", x.drop(11), 1);
        Due.due("room(4) then", x.room(4), 5);
        Due.due("room(3)", x.room(3), Edge.STATE);
    }

    private static void roomOfConstants() {
        DiagramBench x = new DiagramBench();
        x.combine(0, Edge.YES, 0, 0);
        x.combine(11, Edge.NO, 0, 0);
        Due.due("YES and NO need none", x.room(0), 250);
        Due.due("nor do more of them", x.combine(5, Edge.NOT, 0, 0), 0);
        Due.due("peak", x.peak(), 0);
    }
}
