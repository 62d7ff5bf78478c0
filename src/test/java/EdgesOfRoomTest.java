import java.util.function.Supplier;
import java.util.function.ToIntFunction;

/** OUT where the room is the most that it can be: just when one node more than 250 would be in use. */
public final class EdgesOfRoomTest {
    // Kind, handle, and what it is made of: behind these, handles 0 to 9 have 249 nodes, x0 and x1 not among them.
    private static final int[][] MANY = {
        {6, 2, 5, 2}, {10, 0, 0, 4, 7}, {10, 9, 2, 1, 6}, {10, 7, 0, 3, 2}, {10, 4, 3, 0, 7}, {6, 1, 0, 2}, {10, 9, 4, 9, 7},
        {10, 5, 9, 4, 6}, {6, 3, 2, 7}, {6, 0, 7, 9}, {6, 9, 2, 9}, {6, 8, 5, 4}, {10, 6, 4, 8, 2}, {6, 4, 9, 2},
        {10, 0, 0, 3, 5}, {6, 2, 9, 6}, {10, 3, 6, 2, 2}, {6, 2, 9, 5}};

    public static void main(String[] args) {
        oneLessThanAll();
        allTheRoom();
        oneMoreIsOut();
        roomWhenAllIsInUse();
        likeOnesNeedNone();
        roomAgainBehindDrop();
        asTheModelHasIt();
        Due.end();
    }

    private static DiagramBench oneLess() {
        DiagramBench x = Edge.withVariables();
        for (int[] row : MANY) {
            int answer = row[0] == Edge.IF ? x.choose(row[1], row[2], row[3], row[4]) : x.combine(row[1], row[0], row[2], row[3]);
            Due.holds("room for all of these", answer >= 0);
        }
        return x;
    }

    private static DiagramBench full() {
        DiagramBench x = oneLess();
        x.variable(10, 0);
        return x;
    }

    private static void oneLessThanAll() {
        DiagramBench x = oneLess();
        Due.due("in use", x.inUse(), 249);
        Due.due("of handles", x.told(6), 10);
    }

    private static void allTheRoom() {
        DiagramBench x = oneLess();
        Due.due("x0", x.variable(10, 0), 1);
        Due.due("in use at most", x.peak(), 250);
        Due.due("in use", x.inUse(), 250);
        Edge.takes("x0", EdgesOfRoomTest::oneLess, y -> y.variable(11, 0), 250, 1);
    }

    private static void isOut(String what, ToIntFunction<DiagramBench> call) {
        Edge.outIn(what, EdgesOfRoomTest::full, call, 250);
    }

    private static void oneMoreIsOut() {
        isOut("variable", x -> x.variable(11, 1));
        isOut("variable where x0 is", x -> x.variable(10, 1));
        isOut("combine", x -> x.combine(11, Edge.NOT, 10, 0));
        isOut("choose", x -> x.choose(11, 10, 0, 1));
        isOut("compose", x -> x.compose(11, 0, 7, 1));
        isOut("restrict", x -> x.restrict(11, 0, 7, true));
        isOut("quantify", x -> x.quantify(11, 0, 7, true));
        Supplier<DiagramBench> withNet = () -> {
            DiagramBench x = full();
            x.output(0, x.gate(0, Edge.VARIABLE, 1, 0, 0));
            return x;
        };
        Edge.outIn("build", withNet, x -> x.build(11, 0, 0), 250);
        Edge.outIn("equal", withNet, x -> x.equal(0, 0), 250);
    }

    private static void roomWhenAllIsInUse() {
        Edge.changesNothing("room(249)", EdgesOfRoomTest::full, x -> x.room(249), Edge.STATE);
        Edge.changesNothing("room(251)", EdgesOfRoomTest::full, x -> x.room(251), Edge.OUTSIDE);
        Edge.changesNothing("room(250)", EdgesOfRoomTest::full, x -> x.room(250), 250);
        Edge.answers("room(249) of 249", EdgesOfRoomTest::oneLess, x -> x.room(249), 250);
    }

    private static void likeOnesNeedNone() {
        DiagramBench x = full();
        Due.due("x0 again", x.variable(11, 0), 1);
        Due.due("peak", x.peak(), 250);
        Due.due("YES", x.combine(11, Edge.YES, 0, 0), 0);
        Due.due("peak", x.peak(), 250);
        Due.holds("what handle 3 has AND itself", x.combine(11, Edge.AND, 3, 3) > 0);
        Due.due("peak", x.peak(), 250);
        Due.due("shared", x.share(11, 5), 1);
        Due.due("in use", x.inUse(), 250);
    }

    private static void roomAgainBehindDrop() {
        DiagramBench x = full();
        Due.due("out", x.variable(11, 1), Edge.OUT);
        x.drop(10);
        Due.due("one less", x.inUse(), 249);
        Due.due("then there is room", x.variable(11, 1), 1);
        Due.due("peak", x.peak(), 250);
    }

    private static void asTheModelHasIt() {
        Model m = new Model();
        for (int v = 0; v < 8; v++) {
            m.variable(v, v);
        }
        for (int[] row : MANY) {
            if (row[0] == Edge.IF) {
                m.choose(row[1], row[2], row[3], row[4]);
            } else {
                m.combine(row[1], row[0], row[2], row[3]);
            }
        }
        DiagramBench x = oneLess();
        Due.due("in use by the definitions", m.inUse(), 249);
        for (int f = 0; f < 10; f++) {
            Due.due("nodes(" + f + ")", x.nodes(f), m.nodes(f));
            Due.due("count(" + f + ")", x.count(f), m.count(f));
            Due.due("paths(" + f + ")", x.paths(f, true), m.paths(f, true));
        }
        Due.due("x0", m.variable(10, 0), 1);
        Due.due("out by the definitions", m.variable(11, 1), Edge.OUT);
        Due.due("peak by the definitions", m.peak(), 251);
    }
}
