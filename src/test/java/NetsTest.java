/** Promises 1 to 5: a new object, and its nets. */
public final class NetsTest {
    private static final int UNKNOWN = -1, OUTSIDE = -2, FULL = -4, NONE = -9;

    public static void main(String[] args) {
        newObject();
        gateRefusals();
        gateNumbers();
        outputs();
        clears();
        kindsGive();
        givesRefusals();
        Due.end();
    }

    private static void newObject() {
        DiagramBench x = new DiagramBench();
        for (int what = 0; what < 7; what++) {
            Due.due("new: told(" + what + ")", x.told(what), 0);
        }
        Due.due("new: told(7)", x.told(7), 250);
        for (int place = 0; place < 8; place++) {
            Due.due("new: at(" + place + ")", x.at(place), place);
        }
        for (int h = 0; h < 12; h++) {
            Due.due("new: nodes(" + h + ")", x.nodes(h), UNKNOWN);
        }
        Due.due("new: inUse()", x.inUse(), 0);
        Due.due("new: peak()", x.peak(), 0);
        Due.due("new: parting(0)", x.parting(0), NONE);
        Due.due("new: parting(1)", x.parting(1), NONE);
        DiagramBench y = new DiagramBench();
        y.gate(0, 0, 0, 0, 0);
        Due.due("another object's gates", x.told(0), 0);
    }

    private static void gateRefusals() {
        DiagramBench x = new DiagramBench();
        Due.due("no net -1", x.gate(-1, 0, 0, 0, 0), UNKNOWN);
        Due.due("no net 3, no kind", x.gate(3, 11, 0, 0, 0), UNKNOWN);
        Due.due("no kind -1", x.gate(0, -1, 0, 0, 0), OUTSIDE);
        Due.due("no kind 11: a, b, c not looked at", x.gate(0, 11, 99, 99, 99), OUTSIDE);
        Due.due("no variable -1", x.gate(0, 0, -1, 0, 0), OUTSIDE);
        Due.due("no variable 8", x.gate(0, 0, 8, 0, 0), OUTSIDE);
        for (int kind = 3; kind <= 10; kind++) {
            Due.due("kind " + kind + " without gates", x.gate(0, kind, 0, 0, 0), UNKNOWN);
        }
        Due.due("variable: b, c not looked at", x.gate(0, 0, 7, -5, 77), 0);
        Due.due("NOT looks at a", x.gate(0, 3, 1, 0, 0), UNKNOWN);
        Due.due("NOT of -1", x.gate(0, 3, -1, 0, 0), UNKNOWN);
        for (int kind = 4; kind <= 9; kind++) {
            Due.due("kind " + kind + " looks at a", x.gate(0, kind, 1, 0, 0), UNKNOWN);
            Due.due("kind " + kind + " looks at b", x.gate(0, kind, 0, -1, 0), UNKNOWN);
        }
        Due.due("IF looks at a", x.gate(0, 10, 1, 0, 0), UNKNOWN);
        Due.due("IF looks at b", x.gate(0, 10, 0, 1, 0), UNKNOWN);
        Due.due("IF looks at c", x.gate(0, 10, 0, 0, 1), UNKNOWN);
        Due.due("refusals change nothing", x.told(0), 1);
        Due.due("gates of another net are unknown", x.gate(1, 3, 0, 0, 0), UNKNOWN);
    }

    private static void gateNumbers() {
        DiagramBench x = new DiagramBench();
        Due.due("NO looks at nothing", x.gate(2, 1, -9, 99, 99), 0);
        Due.due("YES looks at nothing", x.gate(2, 2, -9, 99, 99), 1);
        Due.due("NOT does not look at b, c", x.gate(2, 3, 1, -1, 99), 2);
        Due.due("AND does not look at c", x.gate(2, 4, 0, 2, 99), 3);
        Due.due("IF looks at all", x.gate(2, 10, 0, 2, 3), 4);
        for (int n = 5; n < 40; n++) {
            Due.due("gate " + n, x.gate(2, 4, n - 1, n - 1, 0), n);
        }
        Due.due("gate 40", x.gate(2, 2, 0, 0, 0), FULL);
        Due.due("UNKNOWN ahead of FULL", x.gate(2, 3, 40, 0, 0), UNKNOWN);
        Due.due("OUTSIDE ahead of FULL", x.gate(2, 0, 8, 0, 0), OUTSIDE);
        Due.due("no kind ahead of FULL", x.gate(2, 12, 0, 0, 0), OUTSIDE);
        Due.due("told(2)", x.told(2), 40);
        Due.due("another net has room", x.gate(1, 2, 0, 0, 0), 0);
    }

    private static void outputs() {
        DiagramBench x = new DiagramBench();
        Due.due("no net", x.output(-1, 0), UNKNOWN);
        Due.due("no net", x.output(3, 0), UNKNOWN);
        Due.due("no gate", x.output(1, 0), UNKNOWN);
        x.gate(1, 2, 0, 0, 0);
        Due.due("no gate -1", x.output(1, -1), UNKNOWN);
        for (int n = 0; n < 4; n++) {
            Due.due("output " + n, x.output(1, 0), n);
        }
        Due.due("output 4", x.output(1, 0), FULL);
        Due.due("UNKNOWN ahead of FULL", x.output(1, 1), UNKNOWN);
        Due.due("told(4)", x.told(4), 4);
        Due.due("told(3)", x.told(3), 0);
    }

    private static void clears() {
        DiagramBench x = new DiagramBench();
        Due.due("no net", x.clear(-1), UNKNOWN);
        Due.due("no net", x.clear(3), UNKNOWN);
        Due.due("an empty net", x.clear(0), 0);
        x.gate(0, 0, 3, 0, 0);
        x.gate(0, 3, 0, 0, 0);
        x.output(0, 1);
        x.gate(1, 2, 0, 0, 0);
        x.build(4, 0, 0);
        Due.due("clear(0)", x.clear(0), 2);
        Due.due("gates", x.told(0), 0);
        Due.due("outputs", x.told(3), 0);
        Due.due("net 1 keeps its gate", x.told(1), 1);
        Due.due("the handle keeps its function", x.value(4, 0), 1);
        Due.due("gives of a cleared net", x.gives(0, 0, 0), UNKNOWN);
        Due.due("output of a cleared net", x.output(0, 0), UNKNOWN);
        Due.due("numbers begin anew", x.gate(0, 2, 0, 0, 0), 0);
        Due.due("outputs begin anew", x.output(0, 0), 0);
    }

    private static int due(int kind, int a, int b, int c) {
        switch (kind) {
            case 1: return 0;
            case 2: return 1;
            case 3: return 1 - a;
            case 4: return a & b;
            case 5: return a | b;
            case 6: return a ^ b;
            case 7: return 1 - (a & b);
            case 8: return 1 - (a | b);
            case 9: return a == b ? 1 : 0;
            default: return a == 1 ? b : c;
        }
    }

    private static void kindsGive() {
        for (int kind = 1; kind <= 10; kind++) {
            DiagramBench x = new DiagramBench();
            x.gate(0, 0, 1, 0, 0);
            x.gate(0, 0, 4, 0, 0);
            x.gate(0, 0, 7, 0, 0);
            x.gate(0, kind, 0, 1, 2);
            x.output(0, 3);
            x.output(0, 1);
            for (int s = 0; s < 256; s++) {
                int want = due(kind, s >> 1 & 1, s >> 4 & 1, s >> 7 & 1);
                Due.due("kind " + kind + " for " + s, x.gives(0, 0, s), want);
            }
            Due.due("a variable for 16", x.gives(0, 1, 16), 1);
            Due.due("a variable for 239", x.gives(0, 1, 239), 0);
        }
    }

    private static void givesRefusals() {
        DiagramBench x = new DiagramBench();
        x.gate(0, 2, 0, 0, 0);
        x.output(0, 0);
        Due.due("no net", x.gives(3, 0, 0), UNKNOWN);
        Due.due("no net", x.gives(-1, 0, 0), UNKNOWN);
        Due.due("no output", x.gives(0, 1, 0), UNKNOWN);
        Due.due("no output", x.gives(0, -1, 0), UNKNOWN);
        Due.due("UNKNOWN ahead of OUTSIDE", x.gives(0, 1, 256), UNKNOWN);
        Due.due("assignment -1", x.gives(0, 0, -1), OUTSIDE);
        Due.due("assignment 256", x.gives(0, 0, 256), OUTSIDE);
        Due.due("assignment 255", x.gives(0, 0, 255), 1);
    }
}
