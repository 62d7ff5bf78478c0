import java.util.ArrayList;
import java.util.List;
import java.util.function.Supplier;
import java.util.function.ToIntFunction;

/** One edge of the document on an object of its own: what the call answers there, and what stands unchanged by it. */
final class Edge {
    static final int UNKNOWN = -1, OUTSIDE = -2, STATE = -3, FULL = -4, OUT = -5, NONE = -9;
    static final int VARIABLE = 0, NO = 1, YES = 2, NOT = 3, AND = 4, OR = 5, XOR = 6, NAND = 7, NOR = 8, LIKE = 9, IF = 10;
    private static final int[] SOME_ASSIGNMENTS = {0, 37, 85, 146, 255};

    private Edge() {
    }

    /** What is none of 0 to many - 1: one beyond either edge, and the ends where numbers wrap around. */
    static int[] beyond(int many) {
        return new int[] {-1, many, Integer.MIN_VALUE, Integer.MAX_VALUE, many + (1 << 30), -1 - many};
    }

    /** Of busy(): no handles, and handles that have nothing. */
    static int[] withNothing() {
        return new int[] {-1, 12, Integer.MIN_VALUE, Integer.MAX_VALUE, 4, 10};
    }

    static void answers(String what, Supplier<DiagramBench> made, ToIntFunction<DiagramBench> call, int want) {
        Due.due(what, call.applyAsInt(made.get()), want);
    }

    /** The call answers so, and all that is told of the object is as it was: a refusal, or a question. */
    static void changesNothing(String what, Supplier<DiagramBench> made, ToIntFunction<DiagramBench> call, int want) {
        DiagramBench x = made.get();
        List<Integer> before = toldOf(x);
        int peak = x.peak();
        Due.due(what, call.applyAsInt(x), want);
        Due.due(what + ": then peak()", x.peak(), peak);
        Due.holds(what + ": nothing is changed", before.equals(toldOf(x)));
    }

    /** The call has at most so many in use: it comes to OUT in a room of one less, and just in that. */
    static void takes(String what, Supplier<DiagramBench> made, ToIntFunction<DiagramBench> call, int most, int want) {
        outIn(what, made, call, most - 1);
        DiagramBench y = made.get();
        y.room(most);
        Due.due(what + " in a room of " + most, call.applyAsInt(y), want);
        Due.due(what + " in a room of " + most + ": peak()", y.peak(), most);
        DiagramBench z = made.get();
        Due.due(what + " in all the room", call.applyAsInt(z), want);
        Due.due(what + " in all the room: peak()", z.peak(), most);
    }

    static void outIn(String what, Supplier<DiagramBench> made, ToIntFunction<DiagramBench> call, int room) {
        DiagramBench x = made.get();
        Due.holds(what + ": a room of " + room, x.room(room) >= 0);
        List<Integer> before = toldOf(x);
        int used = x.inUse();
        Due.due(what + " in a room of " + room, call.applyAsInt(x), OUT);
        Due.due(what + " in a room of " + room + ": peak()", x.peak(), room + 1);
        Due.holds(what + " in a room of " + room + ": nothing is changed", before.equals(toldOf(x)));
        Due.due(what + ": NO behind it", x.combine(11, NO, 0, 0), 0);
        Due.due(what + ": nothing was at hand any more", x.peak(), used);
    }

    /** All that calls tell but peak(), in at most 127 calls: an object has 512. */
    static List<Integer> toldOf(DiagramBench x) {
        List<Integer> all = new ArrayList<>();
        for (int n = 0; n < 8; n++) {
            all.add(x.told(n));
            all.add(x.at(n));
        }
        for (int h = 0; h < 12; h++) {
            all.add(x.nodes(h));
            all.add(x.count(h));
            all.add(x.support(h));
            all.add(x.least(h, true));
        }
        for (int net = 0; net < 3; net++) {
            for (int output = 0; output < all.get(2 * (3 + net)); output++) {
                for (int s : SOME_ASSIGNMENTS) {
                    all.add(x.gives(net, output, s));
                }
            }
        }
        all.add(x.parting(0));
        all.add(x.parting(1));
        all.add(x.inUse());
        return all;
    }

    /**
     * Net 0 is full (40 gates, 4 outputs), net 1 has 4 gates and 2 outputs, net 2 is empty. Handles 0, 1, 2, 3, 11 have
     * x3, YES, NO, x0 XOR x5, x7: 5 nodes, in a room of 9. equal() has answered 0.
     */
    static DiagramBench busy() {
        DiagramBench x = new DiagramBench();
        x.move(6, 0);
        x.move(1, 7);
        fillNet(x, 0);
        x.gate(1, VARIABLE, 3, 0, 0);
        x.gate(1, NOT, 0, 0, 0);
        x.gate(1, VARIABLE, 5, 0, 0);
        x.gate(1, AND, 0, 2, 0);
        x.output(1, 1);
        x.output(1, 3);
        x.gate(2, VARIABLE, 3, 0, 0);
        x.gate(2, NOT, 0, 0, 0);
        x.gate(2, NO, 0, 0, 0);
        x.output(2, 1);
        x.output(2, 2);
        x.equal(1, 2);
        x.clear(2);
        x.variable(0, 3);
        x.combine(1, YES, 0, 0);
        x.combine(2, NO, 0, 0);
        x.variable(3, 0);
        x.variable(4, 5);
        x.combine(3, XOR, 3, 4);
        x.drop(4);
        x.variable(11, 7);
        x.room(9);
        return x;
    }

    /** 40 gates, of each kind, and 4 outputs. */
    static void fillNet(DiagramBench x, int net) {
        for (int v = 0; v < 8; v++) {
            x.gate(net, VARIABLE, v, 0, 0);
        }
        for (int g = 8; g < 40; g++) {
            x.gate(net, 1 + g % 10, g - 8, g - 7, g - 5);
        }
        x.output(net, 39);
        x.output(net, 0);
        x.output(net, 8);
        x.output(net, 23);
    }

    /** Handles 0 to 7 have the variables: 8 nodes. */
    static DiagramBench withVariables() {
        DiagramBench x = new DiagramBench();
        for (int v = 0; v < 8; v++) {
            x.variable(v, v);
        }
        return x;
    }

    /** A net that is YES or NO, one such output for each that is told. */
    static void constantNet(DiagramBench x, int net, int... kinds) {
        for (int kind : kinds) {
            x.output(net, x.gate(net, kind, 0, 0, 0));
        }
    }
}
