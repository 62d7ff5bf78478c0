/** The edges of promises 1 to 5: a new object, gates, outputs, nets that are empty or full. */
public final class EdgesOfNetsTest {
    public static void main(String[] args) {
        busyIsAsTold();
        newObject();
        newObjectBesideAnother();
        gateOfNoNet();
        gateOfEachNet();
        gateOfNoKind();
        gateOfFirstAndLastKind();
        gateOfNoVariable();
        gateOfFirstAndLastVariable();
        gateToldOfNoGate();
        gateToldOfFirstAndLastGate();
        gateToldOfItself();
        gateOfEmptyNet();
        gateDoesNotLook();
        gateOfFullNet();
        gateRefusalsInOrder();
        outputOfNoNet();
        outputOfNoGate();
        outputOfFirstAndLastGate();
        outputsFull();
        clearNoNet();
        clearEmptyNet();
        clearFullNet();
        clearLeavesTheRest();
        givesOfNoNetOrOutput();
        givesOfNoAssignment();
        givesOfFirstAndLast();
        givesOfEachBit();
        Due.end();
    }

    private static void busyIsAsTold() {
        DiagramBench x = Edge.busy();
        int[] want = {40, 4, 0, 4, 2, 0, 5, 9};
        for (int what = 0; what < 8; what++) {
            Due.due("busy: told(" + what + ")", x.told(what), want[what]);
        }
        int[] order = {6, 0, 2, 3, 4, 5, 7, 1};
        for (int place = 0; place < 8; place++) {
            Due.due("busy: at(" + place + ")", x.at(place), order[place]);
        }
        Due.due("busy: inUse()", x.inUse(), 5);
        Due.due("busy: peak()", x.peak(), 5);
        Due.due("busy: parting(0)", x.parting(0), 1);
        Due.due("busy: parting(1)", x.parting(1), 40);
    }

    // ---- promise 1

    private static void isNew(String what, DiagramBench x) {
        for (int net = 0; net < 3; net++) {
            Due.due(what + ": gates of " + net, x.told(net), 0);
            Due.due(what + ": outputs of " + net, x.told(3 + net), 0);
            Due.due(what + ": no gate 0", x.output(net, 0), Edge.UNKNOWN);
            Due.due(what + ": no output 0", x.gives(net, 0, 0), Edge.UNKNOWN);
            Due.due(what + ": nothing to clear", x.clear(net), 0);
        }
        for (int h = 0; h < 12; h++) {
            Due.due(what + ": nothing in " + h, x.nodes(h), Edge.UNKNOWN);
            Due.due(what + ": nothing to drop in " + h, x.drop(h), 0);
        }
        for (int place = 0; place < 8; place++) {
            Due.due(what + ": by numbers", x.at(place), place);
        }
        Due.due(what + ": handles", x.told(6), 0);
        Due.due(what + ": room", x.told(7), 250);
        Due.due(what + ": inUse()", x.inUse(), 0);
        Due.due(what + ": peak()", x.peak(), 0);
        Due.due(what + ": parting(0)", x.parting(0), Edge.NONE);
        Due.due(what + ": parting(1)", x.parting(1), Edge.NONE);
    }

    private static void newObject() {
        isNew("new", new DiagramBench());
    }

    private static void newObjectBesideAnother() {
        DiagramBench one = new DiagramBench();
        DiagramBench other = Edge.busy();
        isNew("made ahead of a busy one", one);
        isNew("made behind a busy one", new DiagramBench());
        Due.due("the busy one", other.inUse(), 5);
    }

    // ---- promise 2

    private static void gateOfNoNet() {
        for (int net : Edge.beyond(3)) {
            Edge.changesNothing("gate of net " + net, Edge::busy, x -> x.gate(net, Edge.YES, 0, 0, 0), Edge.UNKNOWN);
        }
    }

    private static void gateOfEachNet() {
        for (int net = 0; net < 3; net++) {
            int of = net;
            Edge.answers("first gate of net " + net, DiagramBench::new, x -> x.gate(of, Edge.YES, 0, 0, 0), 0);
        }
    }

    private static void gateOfNoKind() {
        for (int kind : Edge.beyond(11)) {
            Edge.changesNothing("gate of kind " + kind, Edge::busy, x -> x.gate(1, kind, 0, 0, 0), Edge.OUTSIDE);
            Edge.changesNothing("gate of kind " + kind + ": a, b, c are not looked at", Edge::busy,
                    x -> x.gate(1, kind, -1, 4, 99), Edge.OUTSIDE);
        }
    }

    private static void gateOfFirstAndLastKind() {
        Edge.answers("gate of kind 0", Edge::busy, x -> x.gate(1, 0, 0, 0, 0), 4);
        Edge.answers("gate of kind 10", Edge::busy, x -> x.gate(1, 10, 0, 0, 0), 4);
    }

    private static void gateOfNoVariable() {
        for (int v : Edge.beyond(8)) {
            Edge.changesNothing("gate of variable " + v, Edge::busy, x -> x.gate(1, 0, v, 0, 0), Edge.OUTSIDE);
            Edge.changesNothing("gate of variable " + v + ": b, c are not looked at", Edge::busy,
                    x -> x.gate(1, 0, v, -1, 99), Edge.OUTSIDE);
        }
    }

    private static void gateOfFirstAndLastVariable() {
        Edge.answers("variable 0 in an empty net", Edge::busy, x -> x.gate(2, 0, 0, 0, 0), 0);
        Edge.answers("variable 7 in an empty net", Edge::busy, x -> x.gate(2, 0, 7, 0, 0), 0);
    }

    private static void gateToldOfNoGate() {
        for (int no : Edge.beyond(4)) {
            for (int kind = 3; kind <= 10; kind++) {
                int of = kind;
                Edge.changesNothing("kind " + kind + " of a = " + no, Edge::busy, x -> x.gate(1, of, no, 0, 0), Edge.UNKNOWN);
                if (kind >= 4) {
                    Edge.changesNothing("kind " + kind + " of b = " + no, Edge::busy, x -> x.gate(1, of, 0, no, 0), Edge.UNKNOWN);
                }
            }
            Edge.changesNothing("kind 10 of c = " + no, Edge::busy, x -> x.gate(1, 10, 0, 0, no), Edge.UNKNOWN);
        }
    }

    private static void gateToldOfFirstAndLastGate() {
        for (int kind = 3; kind <= 10; kind++) {
            int of = kind;
            Edge.answers("kind " + kind + " of the first", Edge::busy, x -> x.gate(1, of, 0, 0, 0), 4);
            Edge.answers("kind " + kind + " of the last", Edge::busy, x -> x.gate(1, of, 3, 3, 3), 4);
        }
    }

    private static void gateToldOfItself() {
        DiagramBench x = new DiagramBench();
        Due.due("YES", x.gate(0, Edge.YES, 0, 0, 0), 0);
        Due.due("gate 1 of itself", x.gate(0, Edge.NOT, 1, 0, 0), Edge.UNKNOWN);
        Due.due("gate 1 of gate 0", x.gate(0, Edge.NOT, 0, 0, 0), 1);
        Due.due("gate 2 of gate 1", x.gate(0, Edge.NOT, 1, 0, 0), 2);
        Due.due("gates of net 0 are none of net 1", x.gate(1, Edge.NOT, 0, 0, 0), Edge.UNKNOWN);
    }

    private static void gateOfEmptyNet() {
        for (int kind = 3; kind <= 10; kind++) {
            int of = kind;
            Edge.changesNothing("kind " + kind + " in an empty net", Edge::busy, x -> x.gate(2, of, 0, 0, 0), Edge.UNKNOWN);
        }
    }

    private static void gateDoesNotLook() {
        for (int no : Edge.beyond(4)) {
            Edge.answers("a variable: b, c = " + no, Edge::busy, x -> x.gate(1, 0, 7, no, no), 4);
            Edge.answers("NO: a, b, c = " + no, Edge::busy, x -> x.gate(1, 1, no, no, no), 4);
            Edge.answers("YES: a, b, c = " + no, Edge::busy, x -> x.gate(1, 2, no, no, no), 4);
            Edge.answers("NOT: b, c = " + no, Edge::busy, x -> x.gate(1, 3, 0, no, no), 4);
            for (int kind = 4; kind <= 9; kind++) {
                int of = kind;
                Edge.answers("kind " + kind + ": c = " + no, Edge::busy, x -> x.gate(1, of, 0, 3, no), 4);
            }
        }
    }

    private static void gateOfFullNet() {
        DiagramBench full = new DiagramBench();
        for (int n = 0; n < 40; n++) {
            Due.due("gate " + n, full.gate(2, Edge.VARIABLE, 3, 0, 0), n);
        }
        Due.due("one more", full.gate(2, Edge.VARIABLE, 3, 0, 0), Edge.FULL);
        Due.due("40 gates", full.told(2), 40);
        Due.due("another net is not full", full.gate(1, Edge.VARIABLE, 3, 0, 0), 0);
        for (int kind = 0; kind <= 10; kind++) {
            int of = kind;
            Edge.changesNothing("kind " + kind + " in a full net", Edge::busy, x -> x.gate(0, of, 7, 7, 7), Edge.FULL);
        }
    }

    private static void gateRefusalsInOrder() {
        Edge.changesNothing("no net ahead of no kind", Edge::busy, x -> x.gate(3, 11, 0, 0, 0), Edge.UNKNOWN);
        Edge.changesNothing("no net ahead of no variable", Edge::busy, x -> x.gate(-1, 0, 8, 0, 0), Edge.UNKNOWN);
        Edge.changesNothing("no gate ahead of a full net", Edge::busy, x -> x.gate(0, Edge.NOT, 40, 0, 0), Edge.UNKNOWN);
        Edge.changesNothing("no b ahead of a full net", Edge::busy, x -> x.gate(0, Edge.OR, 39, 40, 0), Edge.UNKNOWN);
        Edge.changesNothing("no c ahead of a full net", Edge::busy, x -> x.gate(0, Edge.IF, 39, 39, -1), Edge.UNKNOWN);
        Edge.changesNothing("no kind ahead of a full net", Edge::busy, x -> x.gate(0, 11, 0, 0, 0), Edge.OUTSIDE);
        Edge.changesNothing("no variable ahead of a full net", Edge::busy, x -> x.gate(0, 0, -1, 0, 0), Edge.OUTSIDE);
    }

    // ---- promise 3

    private static void outputOfNoNet() {
        for (int net : Edge.beyond(3)) {
            Edge.changesNothing("output of net " + net, Edge::busy, x -> x.output(net, 0), Edge.UNKNOWN);
        }
    }

    private static void outputOfNoGate() {
        for (int gate : Edge.beyond(4)) {
            Edge.changesNothing("output of gate " + gate, Edge::busy, x -> x.output(1, gate), Edge.UNKNOWN);
        }
        for (int gate : Edge.beyond(40)) {
            Edge.changesNothing("UNKNOWN ahead of FULL: gate " + gate, Edge::busy, x -> x.output(0, gate), Edge.UNKNOWN);
        }
        Edge.changesNothing("output of an empty net", Edge::busy, x -> x.output(2, 0), Edge.UNKNOWN);
    }

    private static void outputOfFirstAndLastGate() {
        Edge.answers("output of the first gate", Edge::busy, x -> x.output(1, 0), 2);
        Edge.answers("output of the last gate", Edge::busy, x -> x.output(1, 3), 2);
        DiagramBench x = new DiagramBench();
        for (int n = 0; n < 40; n++) {
            x.gate(2, n == 39 ? Edge.YES : Edge.NO, 0, 0, 0);
        }
        Due.due("output of gate 39", x.output(2, 39), 0);
        Due.due("what it gives", x.gives(2, 0, 0), 1);
    }

    private static void outputsFull() {
        DiagramBench x = new DiagramBench();
        x.gate(1, Edge.YES, 0, 0, 0);
        for (int n = 0; n < 4; n++) {
            Due.due("output " + n + ", of the same gate", x.output(1, 0), n);
        }
        Due.due("output 4", x.output(1, 0), Edge.FULL);
        Due.due("4 outputs", x.told(4), 4);
        x.gate(0, Edge.YES, 0, 0, 0);
        Due.due("another net is not full", x.output(0, 0), 0);
        Edge.changesNothing("an output more", Edge::busy, y -> y.output(0, 39), Edge.FULL);
    }

    // ---- promise 4

    private static void clearNoNet() {
        for (int net : Edge.beyond(3)) {
            Edge.changesNothing("clear(" + net + ")", Edge::busy, x -> x.clear(net), Edge.UNKNOWN);
        }
    }

    private static void clearEmptyNet() {
        Edge.changesNothing("clear of an empty net", Edge::busy, x -> x.clear(2), 0);
    }

    private static void clearFullNet() {
        DiagramBench x = Edge.busy();
        Due.due("clear of a full net", x.clear(0), 40);
        Due.due("no gates", x.told(0), 0);
        Due.due("no outputs", x.told(3), 0);
        Due.due("no gate 0", x.gate(0, Edge.NOT, 0, 0, 0), Edge.UNKNOWN);
        Due.due("no gate 39", x.output(0, 39), Edge.UNKNOWN);
        Due.due("no output 0", x.gives(0, 0, 0), Edge.UNKNOWN);
        Due.due("again", x.clear(0), 0);
        for (int n = 0; n < 40; n++) {
            Due.due("gate " + n + " again", x.gate(0, Edge.NO, 0, 0, 0), n);
        }
        Due.due("full again", x.gate(0, Edge.NO, 0, 0, 0), Edge.FULL);
        for (int n = 0; n < 4; n++) {
            Due.due("output " + n + " again", x.output(0, n), n);
        }
        Due.due("outputs full again", x.output(0, 0), Edge.FULL);
    }

    private static void clearLeavesTheRest() {
        DiagramBench x = Edge.busy();
        Due.due("clear(1)", x.clear(1), 4);
        Due.due("net 0 has its gates", x.told(0), 40);
        Due.due("net 0 has its outputs", x.told(3), 4);
        Due.due("handles have theirs", x.told(6), 5);
        Due.due("in use", x.inUse(), 5);
        Due.due("parting(0)", x.parting(0), 1);
        Due.due("parting(1)", x.parting(1), 40);
        Due.due("the room", x.told(7), 9);
        Due.due("the order", x.at(0), 6);
    }

    // ---- promise 5

    private static void givesOfNoNetOrOutput() {
        for (int net : Edge.beyond(3)) {
            Edge.changesNothing("gives of net " + net, Edge::busy, x -> x.gives(net, 0, 0), Edge.UNKNOWN);
            Edge.changesNothing("gives of net " + net + ", ahead of OUTSIDE", Edge::busy, x -> x.gives(net, 0, 256), Edge.UNKNOWN);
        }
        for (int output : Edge.beyond(2)) {
            Edge.changesNothing("gives of output " + output, Edge::busy, x -> x.gives(1, output, 0), Edge.UNKNOWN);
            Edge.changesNothing("gives of output " + output + ", ahead of OUTSIDE", Edge::busy,
                    x -> x.gives(1, output, -1), Edge.UNKNOWN);
        }
        for (int output : Edge.beyond(4)) {
            Edge.changesNothing("gives of output " + output + " of 4", Edge::busy, x -> x.gives(0, output, 0), Edge.UNKNOWN);
        }
        Edge.changesNothing("gives of an empty net", Edge::busy, x -> x.gives(2, 0, 0), Edge.UNKNOWN);
    }

    private static void givesOfNoAssignment() {
        for (int s : Edge.beyond(256)) {
            Edge.changesNothing("gives for " + s, Edge::busy, x -> x.gives(1, 0, s), Edge.OUTSIDE);
        }
    }

    private static void givesOfFirstAndLast() {
        Edge.changesNothing("NOT x3 for 0", Edge::busy, x -> x.gives(1, 0, 0), 1);
        Edge.changesNothing("NOT x3 for 255", Edge::busy, x -> x.gives(1, 0, 255), 0);
        Edge.changesNothing("x3 AND x5 for 0", Edge::busy, x -> x.gives(1, 1, 0), 0);
        Edge.changesNothing("x3 AND x5 for 255", Edge::busy, x -> x.gives(1, 1, 255), 1);
        DiagramBench x = new DiagramBench();
        Edge.constantNet(x, 2, Edge.NO, Edge.NO, Edge.NO, Edge.YES);
        Due.due("the last output", x.gives(2, 3, 0), 1);
        Due.due("the one ahead of it", x.gives(2, 2, 0), 0);
    }

    private static void givesOfEachBit() {
        for (int v = 0; v < 8; v++) {
            DiagramBench x = new DiagramBench();
            x.move(v, 7 - v);
            x.output(0, x.gate(0, Edge.VARIABLE, v, 0, 0));
            for (int bit = 0; bit < 8; bit++) {
                Due.due("variable " + v + " for bit " + bit, x.gives(0, 0, 1 << bit), bit == v ? 1 : 0);
                Due.due("variable " + v + " for all but bit " + bit, x.gives(0, 0, 255 - (1 << bit)), bit == v ? 0 : 1);
            }
        }
    }
}
