/** Promises 31 to 33: two nets held against one another, and what is told of numbers. */
public final class TwoNetsTest {
    private static final int UNKNOWN = -1, OUTSIDE = -2, STATE = -3, OUT = -5, NONE = -9;
    private static final int NOT = 3, AND = 4, OR = 5, XOR = 6, NAND = 7;

    public static void main(String[] args) {
        likeNets();
        unlikeNets();
        refusals();
        steps();
        firstOutputStays();
        outChangesNothing();
        noOutputs();
        partingStays();
        partingByTheOrder();
        tells();
        Due.end();
    }

    /** Net 0: x0 XOR x1 as a gate; net 1: the same of four NANDs. */
    private static DiagramBench twoXors() {
        DiagramBench x = new DiagramBench();
        for (int net = 0; net < 2; net++) {
            x.gate(net, 0, 0, 0, 0);
            x.gate(net, 0, 1, 0, 0);
        }
        x.gate(0, XOR, 0, 1, 0);
        x.gate(1, NAND, 0, 1, 0);
        x.gate(1, NAND, 0, 2, 0);
        x.gate(1, NAND, 1, 2, 0);
        x.gate(1, NAND, 3, 4, 0);
        x.output(0, 2);
        x.output(1, 5);
        return x;
    }

    private static void likeNets() {
        DiagramBench x = twoXors();
        Due.due("like", x.equal(0, 1), 1);
        Due.due("like", x.equal(1, 0), 1);
        Due.due("itself", x.equal(1, 1), 1);
        Due.due("nothing parts them", x.parting(0), NONE);
        Due.due("nothing parts them", x.parting(1), NONE);
        Due.due("nothing is at hand", x.inUse(), 0);
        Due.due("no handle has any", x.told(6), 0);
    }

    private static void unlikeNets() {
        DiagramBench x = twoXors();
        x.output(0, 0);
        x.output(1, 0);
        x.output(0, 1);
        x.output(1, 2);
        x.output(0, 0);
        x.output(1, 1);
        Due.due("x1, NAND", x.equal(0, 1), 0);
        Due.due("output", x.parting(0), 2);
        Due.due("least assignment", x.parting(1), 0);
        Due.due("nothing is at hand", x.inUse(), 0);
    }

    private static void refusals() {
        DiagramBench x = twoXors();
        Due.due("no net", x.equal(3, 0), UNKNOWN);
        Due.due("no net", x.equal(0, 3), UNKNOWN);
        Due.due("no net", x.equal(-1, 0), UNKNOWN);
        Due.due("no net", x.equal(0, -1), UNKNOWN);
        Due.due("one output, none", x.equal(0, 2), STATE);
        Due.due("none, one output", x.equal(2, 0), STATE);
        Due.due("what", x.parting(-1), OUTSIDE);
        Due.due("what", x.parting(2), OUTSIDE);
    }

    private static void steps() {
        DiagramBench x = twoXors();
        x.equal(0, 1);
        // The XOR stays with three nodes; of net 1 come x0, NAND of both, x0 NAND that (6); x0 goes, x1 NAND that comes.
        int peak = 6;
        Due.due("peak", x.peak(), peak);
        x.room(peak - 1);
        Due.due("not in one less", x.equal(0, 1), OUT);
        Due.due("peak", x.peak(), peak);
        x.room(peak);
        Due.due("in as many", x.equal(0, 1), 1);
        Due.due("peak", x.peak(), peak);

        DiagramBench y = new DiagramBench();
        y.gate(0, 0, 0, 0, 0);
        y.output(0, 0);
        y.gate(1, 0, 1, 0, 0);
        y.output(1, 0);
        Due.due("x0, x1", y.equal(0, 1), 0);
        Due.due("x0, x1, and the two of XOR that are not x1", y.peak(), 4);
        Due.due("assignment", y.parting(1), 2);
        y.room(3);
        Due.due("no room for the XOR", y.equal(0, 1), OUT);
        Due.due("peak", y.peak(), 4);
        y.room(1);
        Due.due("no room for the other's", y.equal(0, 1), OUT);
        Due.due("peak", y.peak(), 2);
        y.room(0);
        Due.due("no room for the first's", y.equal(0, 1), OUT);
        Due.due("peak", y.peak(), 1);
        y.room(4);
        y.variable(5, 7);
        Due.due("what handles have is in use too", y.equal(0, 1), OUT);
        Due.due("peak", y.peak(), 5);
    }

    /** Nothing tells that it is at hand no more before the call is done, so it stays for the outputs behind it too. */
    private static void firstOutputStays() {
        DiagramBench x = new DiagramBench();
        for (int v = 0; v < 4; v++) {
            x.gate(0, 0, v, 0, 0);
            x.output(0, v);
        }
        Due.due("itself", x.equal(0, 0), 1);
        Due.due("four variables", x.peak(), 4);
        x.room(3);
        Due.due("not in three", x.equal(0, 0), OUT);
    }

    private static void outChangesNothing() {
        DiagramBench x = twoXors();
        x.output(0, 0);
        x.output(1, 1);
        Due.due("output 1", x.equal(0, 1), 0);
        Due.due("output", x.parting(0), 1);
        x.move(1, 0);
        x.room(2);
        Due.due("out", x.equal(0, 1), OUT);
        Due.due("output", x.parting(0), 1);
        Due.due("assignment by the order as it was", x.parting(1), 2);
        Due.due("in use", x.inUse(), 0);
    }

    private static void noOutputs() {
        DiagramBench x = new DiagramBench();
        x.variable(0, 0);
        x.variable(1, 1);
        x.drop(1);
        Due.due("none", x.equal(1, 2), 1);
        Due.due("no steps", x.peak(), 2);
    }

    private static void partingStays() {
        DiagramBench x = twoXors();
        x.gate(2, 1, 0, 0, 0);
        x.output(2, 0);
        Due.due("XOR, NO", x.equal(0, 2), 0);
        Due.due("output", x.parting(0), 0);
        Due.due("assignment", x.parting(1), 2);
        x.equal(0, 1);
        x.equal(0, 3);
        x.clear(0);
        x.equal(0, 1);
        x.order(1);
        x.move(7, 0);
        x.variable(0, 0);
        Due.due("output, whatever came behind it", x.parting(0), 0);
        Due.due("assignment, whatever came behind it", x.parting(1), 2);
        x.clear(2);
        x.gate(2, 2, 0, 0, 0);
        x.output(2, 0);
        Due.due("XOR, YES", x.equal(2, 1), 0);
        Due.due("assignment", x.parting(1), 0);
    }

    private static void partingByTheOrder() {
        DiagramBench x = new DiagramBench();
        x.gate(0, 0, 2, 0, 0);
        x.gate(0, 0, 5, 0, 0);
        x.gate(0, OR, 0, 1, 0);
        x.output(0, 2);
        x.gate(1, 1, 0, 0, 0);
        x.output(1, 0);
        Due.due("unlike", x.equal(0, 1), 0);
        Due.due("x5 is the later one", x.parting(1), 32);
        x.move(2, 7);
        Due.due("as it was", x.parting(1), 32);
        Due.due("unlike", x.equal(0, 1), 0);
        Due.due("x2 is the later one", x.parting(1), 4);
    }

    private static void tells() {
        DiagramBench x = twoXors();
        x.gate(2, 2, 0, 0, 0);
        x.output(2, 0);
        x.output(2, 0);
        x.output(2, 0);
        x.variable(0, 0);
        x.combine(4, 1, 0, 0);
        x.share(5, 4);
        x.room(17);
        int[] want = {3, 6, 1, 1, 1, 3, 3, 17};
        for (int what = 0; what < 8; what++) {
            Due.due("told(" + what + ")", x.told(what), want[what]);
        }
        Due.due("told(-1)", x.told(-1), OUTSIDE);
        Due.due("told(8)", x.told(8), OUTSIDE);
        x.drop(4);
        Due.due("told(6)", x.told(6), 2);
        x.clear(1);
        Due.due("told(1)", x.told(1), 0);
        Due.due("told(4)", x.told(4), 0);
        Due.due("gates of kind NOT count too", x.gate(0, NOT, 2, 0, 0), 3);
        Due.due("and AND", x.gate(0, AND, 2, 3, 0), 4);
        Due.due("told(0)", x.told(0), 5);
    }
}
