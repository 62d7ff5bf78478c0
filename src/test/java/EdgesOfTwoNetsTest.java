import java.util.function.Supplier;

/** The edges of promises 31 to 33: nets that are empty, full, unlike at the first or the last output; what is told. */
public final class EdgesOfTwoNetsTest {
    public static void main(String[] args) {
        equalOfNoNet();
        equalOfUnlikeNumbers();
        equalOfEmptyNets();
        equalOfItself();
        equalOfFullNets();
        equalPartedAtEachOutput();
        equalMakesNoMoreSteps();
        equalOutAtEachStep();
        equalOutAheadOfAPartedOutput();
        equalOutAtALaterOutput();
        equalBesideHandles();
        equalLeavesHandles();
        partingOutside();
        partingAheadOfAny();
        partingFirstAndLastAssignment();
        partingByTheOrderAsItWas();
        partingWhateverCame();
        partingOfTheLatest();
        toldOutside();
        toldOfNothing();
        toldOfAllThatIsFull();
        toldOfHandles();
        Due.end();
    }

    /** Nets 0 and 1 have one output each, x0 and x1. */
    private static DiagramBench twoVariables() {
        DiagramBench x = new DiagramBench();
        x.output(0, x.gate(0, Edge.VARIABLE, 0, 0, 0));
        x.output(1, x.gate(1, Edge.VARIABLE, 1, 0, 0));
        return x;
    }

    /** Nets 0 and 1 have four outputs each: NO, but for one of net 1. */
    private static DiagramBench unlikeAt(int output) {
        DiagramBench x = new DiagramBench();
        Edge.constantNet(x, 0, Edge.NO, Edge.NO, Edge.NO, Edge.NO);
        for (int o = 0; o < 4; o++) {
            Edge.constantNet(x, 1, o == output ? Edge.YES : Edge.NO);
        }
        return x;
    }

    // ---- promise 31

    private static void equalOfNoNet() {
        for (int net : Edge.beyond(3)) {
            Edge.changesNothing("equal(" + net + ", 0)", Edge::busy, x -> x.equal(net, 0), Edge.UNKNOWN);
            Edge.changesNothing("equal(0, " + net + ")", Edge::busy, x -> x.equal(0, net), Edge.UNKNOWN);
            Edge.changesNothing("equal of " + net + " twice", Edge::busy, x -> x.equal(net, net), Edge.UNKNOWN);
        }
    }

    private static void equalOfUnlikeNumbers() {
        Edge.changesNothing("4 outputs and 2", Edge::busy, x -> x.equal(0, 1), Edge.STATE);
        Edge.changesNothing("2 outputs and 4", Edge::busy, x -> x.equal(1, 0), Edge.STATE);
        Edge.changesNothing("2 outputs and none", Edge::busy, x -> x.equal(1, 2), Edge.STATE);
        Edge.changesNothing("none and 4", Edge::busy, x -> x.equal(2, 0), Edge.STATE);
        Supplier<DiagramBench> noRoom = () -> {
            DiagramBench x = twoVariables();
            x.output(1, 0);
            x.room(0);
            return x;
        };
        Edge.changesNothing("STATE ahead of OUT", noRoom, x -> x.equal(0, 1), Edge.STATE);
    }

    private static void equalOfEmptyNets() {
        Supplier<DiagramBench> cleared = () -> {
            DiagramBench x = Edge.busy();
            x.clear(1);
            return x;
        };
        Edge.changesNothing("empty nets", cleared, x -> x.equal(1, 2), 1);
        Edge.changesNothing("an empty net and itself", cleared, x -> x.equal(2, 2), 1);
        Supplier<DiagramBench> gates = () -> {
            DiagramBench x = Edge.busy();
            x.clear(1);
            x.gate(1, Edge.YES, 0, 0, 0);
            return x;
        };
        Edge.changesNothing("nets without outputs", gates, x -> x.equal(1, 2), 1);
        Due.due("in a new object", new DiagramBench().equal(0, 1), 1);
    }

    private static void equalOfItself() {
        for (int net = 0; net < 2; net++) {
            DiagramBench x = Edge.busy();
            x.room(250);
            Due.due("net " + net + " and itself", x.equal(net, net), 1);
            Due.due("parting(0) as it was", x.parting(0), 1);
            Due.due("parting(1) as it was", x.parting(1), 40);
            Due.due("in use as it was", x.inUse(), 5);
        }
    }

    private static void equalOfFullNets() {
        DiagramBench x = new DiagramBench();
        Edge.fillNet(x, 0);
        Edge.fillNet(x, 2);
        Due.due("full nets, told alike", x.equal(0, 2), 1);
        Due.due("nothing parts them", x.parting(0), Edge.NONE);
    }

    private static void equalPartedAtEachOutput() {
        for (int output = 0; output < 4; output++) {
            DiagramBench x = unlikeAt(output);
            x.room(0);
            Due.due("unlike at " + output, x.equal(0, 1), 0);
            Due.due("the output", x.parting(0), output);
            Due.due("the assignment", x.parting(1), 0);
            Due.due("peak", x.peak(), 0);
            Due.due("the other way", x.equal(1, 0), 0);
            Due.due("the output", x.parting(0), output);
        }
        DiagramBench y = unlikeAt(-1);
        Due.due("like in all", y.equal(0, 1), 1);
        Due.due("parting", y.parting(0), Edge.NONE);
    }

    private static void equalMakesNoMoreSteps() {
        DiagramBench x = new DiagramBench();
        Edge.constantNet(x, 0, Edge.NO);
        Edge.constantNet(x, 1, Edge.YES);
        for (int net = 0; net < 2; net++) {
            x.output(net, x.gate(net, Edge.VARIABLE, net, 0, 0));
        }
        x.room(0);
        Due.due("the first parts them, the second has no room", x.equal(0, 1), 0);
        Due.due("output", x.parting(0), 0);
        Due.due("peak", x.peak(), 0);
        x.room(250);
        Due.due("with room", x.equal(0, 1), 0);
        Due.due("no more steps", x.peak(), 0);
    }

    private static void equalOutAtEachStep() {
        Edge.outIn("equal, at the first one's", EdgesOfTwoNetsTest::twoVariables, x -> x.equal(0, 1), 0);
        Edge.outIn("equal, at the other one's", EdgesOfTwoNetsTest::twoVariables, x -> x.equal(0, 1), 1);
        Edge.outIn("equal, at the first node of XOR", EdgesOfTwoNetsTest::twoVariables, x -> x.equal(0, 1), 2);
        Edge.takes("equal, at the second node of XOR", EdgesOfTwoNetsTest::twoVariables, x -> x.equal(0, 1), 4, 0);
        Edge.takes("equal of like ones", EdgesOfTwoNetsTest::twoVariables, x -> x.equal(1, 1), 1, 1);
    }

    private static void equalOutAheadOfAPartedOutput() {
        Supplier<DiagramBench> made = () -> {
            DiagramBench x = new DiagramBench();
            for (int net = 0; net < 2; net++) {
                x.output(net, x.gate(net, Edge.VARIABLE, 4, 0, 0));
                Edge.constantNet(x, net, net == 0 ? Edge.NO : Edge.YES);
            }
            return x;
        };
        Edge.takes("equal: output 0 has x4, output 1 parts them", made, x -> x.equal(0, 1), 1, 0);
    }

    private static void equalOutAtALaterOutput() {
        Supplier<DiagramBench> made = () -> {
            DiagramBench x = new DiagramBench();
            for (int net = 0; net < 2; net++) {
                Edge.constantNet(x, net, Edge.YES, Edge.NO, Edge.NO);
                x.output(net, x.gate(net, Edge.VARIABLE, 4 + net, 0, 0));
            }
            return x;
        };
        Edge.outIn("equal, at the first one's last output", made, x -> x.equal(0, 1), 0);
        Edge.outIn("equal, at the other one's last output", made, x -> x.equal(0, 1), 1);
        Edge.takes("equal, at the last XOR", made, x -> x.equal(0, 1), 4, 0);
    }

    private static void equalBesideHandles() {
        Supplier<DiagramBench> made = () -> {
            DiagramBench x = twoVariables();
            x.variable(0, 7);
            x.variable(1, 1);
            return x;
        };
        Edge.takes("equal: x7 is in use too, x1 was already", made, x -> x.equal(0, 1), 5, 0);
    }

    private static void equalLeavesHandles() {
        DiagramBench x = Edge.busy();
        x.room(250);
        x.gate(2, Edge.NO, 0, 0, 0);
        x.output(2, 0);
        x.output(2, 0);
        Due.due("unlike", x.equal(1, 2), 0);
        Due.due("handles as they were", x.told(6), 5);
        Due.due("in use as it was", x.inUse(), 5);
        Due.due("gates as they were", x.told(1), 4);
        Due.due("outputs as they were", x.told(4), 2);
        Due.due("the order as it was", x.at(7), 1);
        Due.due("the room as it was", x.told(7), 250);
    }

    // ---- promise 32

    private static void partingOutside() {
        for (int what : Edge.beyond(2)) {
            Edge.changesNothing("parting(" + what + ")", Edge::busy, x -> x.parting(what), Edge.OUTSIDE);
            Edge.changesNothing("parting(" + what + ") ahead of any", DiagramBench::new, x -> x.parting(what), Edge.OUTSIDE);
        }
    }

    private static void nothingParted(String what, DiagramBench x) {
        Due.due(what + ": parting(0)", x.parting(0), Edge.NONE);
        Due.due(what + ": parting(1)", x.parting(1), Edge.NONE);
    }

    private static void partingAheadOfAny() {
        DiagramBench x = twoVariables();
        nothingParted("new", x);
        Due.due("like", x.equal(0, 0), 1);
        nothingParted("behind 1", x);
        Due.due("unlike numbers", x.equal(0, 2), Edge.STATE);
        nothingParted("behind STATE", x);
        Due.due("no net", x.equal(0, 3), Edge.UNKNOWN);
        nothingParted("behind UNKNOWN", x);
        x.room(3);
        Due.due("no room", x.equal(0, 1), Edge.OUT);
        nothingParted("behind OUT", x);
        x.room(4);
        Due.due("room", x.equal(0, 1), 0);
        Due.due("parting(0)", x.parting(0), 0);
        Due.due("parting(1)", x.parting(1), 2);
    }

    private static void partingFirstAndLastAssignment() {
        DiagramBench x = new DiagramBench();
        for (int v = 0; v < 8; v++) {
            x.gate(0, Edge.VARIABLE, v, 0, 0);
        }
        for (int v = 1; v < 8; v++) {
            x.gate(0, Edge.AND, v == 1 ? 0 : 6 + v, v, 0);
        }
        x.output(0, 14);
        Edge.constantNet(x, 1, Edge.NO);
        Edge.constantNet(x, 2, Edge.YES);
        Due.due("AND of all, NO", x.equal(0, 1), 0);
        Due.due("the last assignment alone", x.parting(1), 255);
        Due.due("AND of all, YES", x.equal(0, 2), 0);
        Due.due("the first assignment", x.parting(1), 0);
    }

    private static void partingByTheOrderAsItWas() {
        for (int last = 0; last < 8; last++) {
            DiagramBench x = new DiagramBench();
            for (int v = 0; v < 8; v++) {
                x.gate(0, Edge.VARIABLE, v, 0, 0);
            }
            for (int v = 1; v < 8; v++) {
                x.gate(0, Edge.OR, v == 1 ? 0 : 6 + v, v, 0);
            }
            x.output(0, 14);
            Edge.constantNet(x, 1, Edge.NO);
            x.move(last, 7);
            Due.due("OR of all, NO", x.equal(0, 1), 0);
            Due.due("x" + last + " is at the last place", x.parting(1), 1 << last);
            x.move(last, 0);
            Due.due("it was", x.parting(1), 1 << last);
            x.order(1);
            Due.due("it was", x.parting(1), 1 << last);
        }
    }

    private static void partingIs(String what, DiagramBench x, int output, int assignment) {
        Due.due(what + ": parting(0)", x.parting(0), output);
        Due.due(what + ": parting(1)", x.parting(1), assignment);
    }

    private static void partingWhateverCame() {
        DiagramBench x = Edge.busy();
        x.equal(1, 1);
        partingIs("equal() that answered 1", x, 1, 40);
        x.equal(1, 0);
        partingIs("equal() that answered STATE", x, 1, 40);
        x.equal(1, -1);
        partingIs("equal() that answered UNKNOWN", x, 1, 40);
        x.room(5);
        Due.due("no room", x.equal(0, 0), Edge.OUT);
        partingIs("equal() that answered OUT", x, 1, 40);
        for (int h = 0; h < 12; h++) {
            x.drop(h);
        }
        x.order(0);
        x.move(3, 0);
        for (int net = 0; net < 3; net++) {
            x.clear(net);
        }
        x.equal(0, 1);
        partingIs("all else", x, 1, 40);
    }

    private static void partingOfTheLatest() {
        DiagramBench x = unlikeAt(3);
        x.equal(0, 1);
        partingIs("unlike at 3", x, 3, 0);
        for (int o = 0; o < 4; o++) {
            x.output(2, x.gate(2, Edge.VARIABLE, 4 + o, 0, 0));
        }
        Due.due("unlike at 0", x.equal(2, 0), 0);
        partingIs("unlike at 0", x, 0, 16);
        Due.due("unlike at 3 again", x.equal(1, 0), 0);
        partingIs("unlike at 3 again", x, 3, 0);
    }

    // ---- promise 33

    private static void toldOutside() {
        for (int what : Edge.beyond(8)) {
            Edge.changesNothing("told(" + what + ")", Edge::busy, x -> x.told(what), Edge.OUTSIDE);
        }
    }

    private static void toldOfNothing() {
        for (int what = 0; what < 7; what++) {
            int of = what;
            Edge.changesNothing("told(" + what + ")", DiagramBench::new, x -> x.told(of), 0);
        }
        Edge.changesNothing("told(7)", DiagramBench::new, x -> x.told(7), 250);
    }

    private static void toldOfAllThatIsFull() {
        DiagramBench x = new DiagramBench();
        for (int net = 0; net < 3; net++) {
            Edge.fillNet(x, net);
            x.gate(net, Edge.YES, 0, 0, 0);
            x.output(net, 0);
        }
        for (int h = 0; h < 12; h++) {
            x.variable(h, h % 8);
        }
        x.room(8);
        int[] want = {40, 40, 40, 4, 4, 4, 12, 8};
        for (int what = 0; what < 8; what++) {
            Due.due("told(" + what + ")", x.told(what), want[what]);
        }
    }

    private static void toldOfHandles() {
        DiagramBench x = new DiagramBench();
        x.combine(0, Edge.NO, 0, 0);
        Due.due("NO is a function", x.told(6), 1);
        x.share(11, 0);
        Due.due("shared", x.told(6), 2);
        x.share(11, 11);
        Due.due("with itself", x.told(6), 2);
        x.variable(11, 3);
        Due.due("another one", x.told(6), 2);
        x.room(1);
        x.variable(5, 4);
        Due.due("out", x.told(6), 2);
        x.drop(5);
        Due.due("it had nothing", x.told(6), 2);
        x.drop(0);
        x.drop(11);
        Due.due("none", x.told(6), 0);
    }
}
