/** Promises 6 to 9: the order and the room. */
public final class OrderAndRoomTest {
    private static final int UNKNOWN = -1, OUTSIDE = -2, STATE = -3, OUT = -5;

    public static void main(String[] args) {
        orderOfNet();
        orderGoesIntoWhatIsLookedAt();
        orderOfEmptyNet();
        orderRefusals();
        orderOfDeepNet();
        moves();
        moveRefusals();
        places();
        rooms();
        Due.end();
    }

    private static void orderIs(String what, DiagramBench x, int... variables) {
        for (int place = 0; place < 8; place++) {
            Due.due(what + ": at(" + place + ")", x.at(place), variables[place]);
        }
    }

    private static void orderOfNet() {
        DiagramBench x = new DiagramBench();
        x.gate(1, 0, 2, 0, 0);
        x.gate(1, 0, 7, 0, 0);
        x.gate(1, 0, 5, 0, 0);
        x.gate(1, 0, 1, 0, 0);
        x.gate(1, 4, 2, 0, 0);  // 4: x5 AND x2
        x.gate(1, 10, 1, 4, 0); // 5: x7, then x5, x2
        x.gate(1, 0, 7, 0, 0);  // 6: x7 again
        x.gate(1, 6, 3, 6, 0);  // 7: x1, x7
        x.output(1, 5);
        x.output(1, 7);
        Due.due("order(1)", x.order(1), 4);
        orderIs("a, then b, then c", x, 7, 5, 2, 1, 0, 3, 4, 6);
        x.clear(1);
        x.gate(1, 0, 6, 0, 0);
        x.gate(1, 0, 3, 0, 0);
        x.output(1, 0);
        Due.due("an output that is a variable", x.order(1), 1);
        orderIs("a gate that no output needs is not met", x, 6, 0, 1, 2, 3, 4, 5, 7);
    }

    private static void orderGoesIntoWhatIsLookedAt() {
        DiagramBench x = new DiagramBench();
        x.gate(0, 0, 4, 0, 0);
        x.gate(0, 0, 3, 0, 0);
        x.gate(0, 0, 2, 0, 0);
        x.gate(0, 3, 1, 2, 2);
        x.gate(0, 2, 0, 0, 0);
        x.output(0, 4);
        x.output(0, 3);
        Due.due("NOT goes into a alone, YES into nothing", x.order(0), 1);
        orderIs("NOT", x, 3, 0, 1, 2, 4, 5, 6, 7);
        x.gate(0, 5, 2, 0, 1);
        x.output(0, 5);
        Due.due("OR goes into a, b alone", x.order(0), 3);
        orderIs("OR", x, 3, 2, 4, 0, 1, 5, 6, 7);
    }

    private static void orderOfEmptyNet() {
        DiagramBench x = new DiagramBench();
        x.move(0, 7);
        Due.due("a net without outputs", x.order(2), 0);
        orderIs("by numbers", x, 0, 1, 2, 3, 4, 5, 6, 7);
    }

    private static void orderRefusals() {
        DiagramBench x = new DiagramBench();
        Due.due("no net", x.order(3), UNKNOWN);
        Due.due("no net", x.order(-1), UNKNOWN);
        x.move(6, 0);
        x.combine(0, 2, 0, 0);
        Due.due("a handle has YES", x.order(0), STATE);
        Due.due("UNKNOWN ahead of STATE", x.order(3), UNKNOWN);
        orderIs("refused", x, 6, 0, 1, 2, 3, 4, 5, 7);
        x.drop(0);
        Due.due("no handle has any", x.order(0), 0);
    }

    private static void orderOfDeepNet() {
        DiagramBench x = new DiagramBench();
        x.gate(0, 0, 5, 0, 0);
        for (int g = 1; g < 40; g++) {
            x.gate(0, 10, g - 1, g - 1, g - 1);
        }
        x.output(0, 39);
        Due.due("a chain of 40 gates", x.order(0), 1);
        Due.due("at(0)", x.at(0), 5);
    }

    private static void moves() {
        DiagramBench x = new DiagramBench();
        Due.due("move(2, 5)", x.move(2, 5), 2);
        orderIs("to the back", x, 0, 1, 3, 4, 5, 2, 6, 7);
        Due.due("move(6, 1)", x.move(6, 1), 6);
        orderIs("to the front", x, 0, 6, 1, 3, 4, 5, 2, 7);
        Due.due("move(3, 3)", x.move(3, 3), 3);
        orderIs("nowhere", x, 0, 6, 1, 3, 4, 5, 2, 7);
        Due.due("move(7, 0)", x.move(7, 0), 7);
        Due.due("move(0, 7)", x.move(0, 7), 1);
        orderIs("the ends", x, 7, 6, 1, 3, 4, 5, 2, 0);
    }

    private static void moveRefusals() {
        DiagramBench x = new DiagramBench();
        Due.due("no variable", x.move(8, 0), OUTSIDE);
        Due.due("no variable", x.move(-1, 0), OUTSIDE);
        Due.due("no place", x.move(0, 8), OUTSIDE);
        Due.due("no place", x.move(0, -1), OUTSIDE);
        x.combine(11, 1, 0, 0);
        Due.due("a handle has NO", x.move(1, 2), STATE);
        Due.due("a handle has NO, same place", x.move(1, 1), STATE);
        Due.due("OUTSIDE ahead of STATE", x.move(1, 8), OUTSIDE);
        orderIs("refused", x, 0, 1, 2, 3, 4, 5, 6, 7);
    }

    private static void places() {
        DiagramBench x = new DiagramBench();
        Due.due("at(-1)", x.at(-1), OUTSIDE);
        Due.due("at(8)", x.at(8), OUTSIDE);
        Due.due("at(7)", x.at(7), 7);
    }

    private static void rooms() {
        DiagramBench x = new DiagramBench();
        Due.due("room(251)", x.room(251), OUTSIDE);
        Due.due("room(-1)", x.room(-1), OUTSIDE);
        Due.due("room(3)", x.room(3), 250);
        Due.due("told(7)", x.told(7), 3);
        x.variable(0, 0);
        x.variable(1, 1);
        Due.due("less than in use", x.room(1), STATE);
        Due.due("OUTSIDE ahead of STATE", x.room(-1), OUTSIDE);
        Due.due("refused", x.told(7), 3);
        Due.due("as many as in use", x.room(2), 3);
        Due.due("no room for one more", x.variable(2, 2), OUT);
        Due.due("after OUT no more are in use", x.room(2), 2);
        Due.due("one that is in use already", x.variable(2, 1), 1);
        Due.due("all", x.room(250), 2);
        x.drop(0);
        x.drop(1);
        Due.due("one in use", x.room(0), STATE);
        x.drop(2);
        Due.due("none in use", x.room(0), 250);
        Due.due("a constant needs no room", x.combine(0, 2, 0, 0), 0);
    }
}
