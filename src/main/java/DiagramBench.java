import java.util.Arrays;

/**
 * A bench of decision diagrams: nets of gates over eight variables, and functions held by handles as reduced ordered
 * diagrams that share their nodes within a room of so many.
 */
public final class DiagramBench {
    public static final int UNKNOWN = -1, OUTSIDE = -2, STATE = -3, FULL = -4, OUT = -5, NONE = -9;

    private static final int VARIABLES = 8, ASSIGNMENTS = 256, NETS = 3, GATES = 40, OUTPUTS = 4, HANDLES = 12;
    private static final int MOST_ROOM = 250;
    private static final int OF_VARIABLE = 0, NOT = 3, AND = 4, OR = 5, XOR = 6, LIKE = 9, IF = 10;
    private static final int MOST_OPERANDS = 3;

    // What a kind makes of a, b, c: bit a + 2 b + 4 c of its table. A variable is no table's work; its row is not used.
    private static final int[] TABLES = {0x00, 0x00, 0xFF, 0x55, 0x88, 0xEE, 0x66, 0x77, 0x11, 0x99, 0xD8};
    // How many of a, b, c are gates that a kind looks at.
    private static final int[] OPERANDS = {0, 0, 0, 1, 2, 2, 2, 2, 2, 2, 3};

    // A function is the number of its node in the pool; the two that are always the same have the first numbers.
    private static final int NOTHING = -1, NO = 0, YES = 1, FIRST_NODE = 2;
    // equal() keeps two functions for each output till it is done; no other call keeps more.
    private static final int MOST_KEPT = 2 * OUTPUTS;

    private final Net[] nets = new Net[NETS];
    private final Order places = new Order();
    private final Pool pool = new Pool();
    private final int[] held = new int[HANDLES];
    private final int[] ofGate = new int[GATES];
    private final int[] lastNeed = new int[GATES];
    private final int[] kept = new int[MOST_KEPT];
    private int keptCount = 0;
    private int mostInUse = 0;
    private int partedOutput = NONE;
    private int partedAssignment = NONE;

    public DiagramBench() {
        for (int n = 0; n < NETS; n++) {
            nets[n] = new Net();
        }
        Arrays.fill(held, NOTHING);
        Arrays.fill(ofGate, NOTHING);
    }

    // ---- 1 nets

    public int gate(int net, int kind, int a, int b, int c) {
        if (!isNet(net)) {
            return UNKNOWN;
        }
        if (kind < OF_VARIABLE || kind > IF) {
            return OUTSIDE;
        }
        if (!nets[net].hasOperands(kind, a, b, c)) {
            return UNKNOWN;
        }
        if (kind == OF_VARIABLE && !isVariable(a)) {
            return OUTSIDE;
        }
        return nets[net].addGate(kind, a, b, c);
    }

    public int output(int net, int gate) {
        if (!isNet(net) || !nets[net].hasGate(gate)) {
            return UNKNOWN;
        }
        return nets[net].addOutput(gate);
    }

    public int clear(int net) {
        if (!isNet(net)) {
            return UNKNOWN;
        }
        return nets[net].empty();
    }

    public int gives(int net, int output, int assignment) {
        if (!isNet(net) || !nets[net].hasOutput(output)) {
            return UNKNOWN;
        }
        if (!isAssignment(assignment)) {
            return OUTSIDE;
        }
        return nets[net].outputValue(output, assignment);
    }

    // ---- 2 the order, the room

    public int order(int net) {
        if (!isNet(net)) {
            return UNKNOWN;
        }
        if (heldCount() > 0) {
            return STATE;
        }
        places.forget();
        nets[net].meetVariables(places);
        return places.meetOthers();
    }

    public int move(int variable, int place) {
        if (!isVariable(variable) || !isVariable(place)) {
            return OUTSIDE;
        }
        if (heldCount() > 0) {
            return STATE;
        }
        return places.moveTo(variable, place);
    }

    public int at(int place) {
        if (!isVariable(place)) {
            return OUTSIDE;
        }
        return places.variableAt(place);
    }

    public int room(int n) {
        if (n < 0 || n > MOST_ROOM) {
            return OUTSIDE;
        }
        if (inUse() > n) {
            return STATE;
        }
        return pool.changeLimit(n);
    }

    // ---- 3 functions

    public int build(int h, int net, int output) {
        if (!isHandle(h) || !isNet(net) || !nets[net].hasOutput(output)) {
            return UNKNOWN;
        }
        beginSteps();
        return give(h, building(nets[net], output));
    }

    public int variable(int h, int v) {
        if (!isHandle(h)) {
            return UNKNOWN;
        }
        if (!isVariable(v)) {
            return OUTSIDE;
        }
        beginSteps();
        return give(h, variableStep(v));
    }

    public int combine(int h, int kind, int f, int g) {
        if (!isHandle(h)) {
            return UNKNOWN;
        }
        if (kind <= OF_VARIABLE || kind > LIKE) {
            return OUTSIDE;
        }
        boolean looksAtF = kind >= NOT;
        boolean looksAtG = kind > NOT;
        if (looksAtF && !hasFunction(f) || looksAtG && !hasFunction(g)) {
            return UNKNOWN;
        }
        beginSteps();
        return give(h, kindStep(kind, looksAtF ? held[f] : NO, looksAtG ? held[g] : NO, NO));
    }

    public int choose(int h, int f, int g, int k) {
        if (!isHandle(h) || !hasFunction(f) || !hasFunction(g) || !hasFunction(k)) {
            return UNKNOWN;
        }
        beginSteps();
        return give(h, kindStep(IF, held[f], held[g], held[k]));
    }

    public int restrict(int h, int f, int v, boolean yes) {
        if (!isHandle(h) || !hasFunction(f)) {
            return UNKNOWN;
        }
        if (!isVariable(v)) {
            return OUTSIDE;
        }
        beginSteps();
        return give(h, fixStep(held[f], v, yes));
    }

    public int quantify(int h, int f, int v, boolean all) {
        if (!isHandle(h) || !hasFunction(f)) {
            return UNKNOWN;
        }
        if (!isVariable(v)) {
            return OUTSIDE;
        }
        beginSteps();
        int ifNo = keep(fixStep(held[f], v, false));
        int ifYes = ifNo == NOTHING ? NOTHING : keep(fixStep(held[f], v, true));
        return give(h, kindStep(all ? AND : OR, ifNo, ifYes, NO));
    }

    public int compose(int h, int f, int v, int g) {
        if (!isHandle(h) || !hasFunction(f) || !hasFunction(g)) {
            return UNKNOWN;
        }
        if (!isVariable(v)) {
            return OUTSIDE;
        }
        beginSteps();
        int ifNo = keep(fixStep(held[f], v, false));
        int ifYes = ifNo == NOTHING ? NOTHING : keep(fixStep(held[f], v, true));
        return give(h, kindStep(IF, held[g], ifYes, ifNo));
    }

    public int share(int h, int f) {
        if (!isHandle(h) || !hasFunction(f)) {
            return UNKNOWN;
        }
        held[h] = held[f];
        return 1;
    }

    public int drop(int h) {
        if (!isHandle(h)) {
            return UNKNOWN;
        }
        int answer = held[h] == NOTHING ? 0 : 1;
        held[h] = NOTHING;
        return answer;
    }

    // ---- 4 what is told

    public int nodes(int f) {
        if (!hasFunction(f)) {
            return UNKNOWN;
        }
        return pool.nodeCount(held[f]);
    }

    public int inUse() {
        collect();
        return pool.usedCount();
    }

    public int common(int f, int g) {
        if (!hasFunction(f) || !hasFunction(g)) {
            return UNKNOWN;
        }
        return pool.commonCount(held[f], held[g]);
    }

    public int peak() {
        return mostInUse;
    }

    public int value(int f, int assignment) {
        if (!hasFunction(f)) {
            return UNKNOWN;
        }
        if (!isAssignment(assignment)) {
            return OUTSIDE;
        }
        return pool.valueFor(held[f], assignment, places);
    }

    public int same(int f, int g) {
        if (!hasFunction(f) || !hasFunction(g)) {
            return UNKNOWN;
        }
        return held[f] == held[g] ? 1 : 0;
    }

    public int count(int f) {
        if (!hasFunction(f)) {
            return UNKNOWN;
        }
        int yes = 0;
        for (int assignment = 0; assignment < ASSIGNMENTS; assignment++) {
            yes += pool.valueFor(held[f], assignment, places);
        }
        return yes;
    }

    public int support(int f) {
        if (!hasFunction(f)) {
            return UNKNOWN;
        }
        int bits = 0;
        for (int place = 0; place < VARIABLES; place++) {
            if (pool.nodeCountAt(held[f], place) > 0) {
                bits |= 1 << places.variableAt(place);
            }
        }
        return bits;
    }

    public int top(int f) {
        if (!hasFunction(f)) {
            return UNKNOWN;
        }
        int place = pool.placeOf(held[f]);
        return place < VARIABLES ? places.variableAt(place) : NONE;
    }

    public int level(int f, int v) {
        if (!hasFunction(f)) {
            return UNKNOWN;
        }
        if (!isVariable(v)) {
            return OUTSIDE;
        }
        return pool.nodeCountAt(held[f], places.placeOf(v));
    }

    public int least(int f, boolean yes) {
        if (!hasFunction(f)) {
            return UNKNOWN;
        }
        return pool.leastFor(held[f], yes ? YES : NO, places);
    }

    public int paths(int f, boolean yes) {
        if (!hasFunction(f)) {
            return UNKNOWN;
        }
        return pool.pathCount(held[f], yes ? YES : NO);
    }

    // ---- 5 two nets

    public int equal(int net, int other) {
        if (!isNet(net) || !isNet(other)) {
            return UNKNOWN;
        }
        int outputs = nets[net].outputCount();
        if (outputs != nets[other].outputCount()) {
            return STATE;
        }
        if (outputs > 0) {
            // Without outputs no step is made, and the peak stays that of an earlier call.
            beginSteps();
        }
        int apart = NO;
        for (int output = 0; output < outputs && apart == NO; output++) {
            int ofOne = building(nets[net], output);
            int ofOther = ofOne == NOTHING ? NOTHING : building(nets[other], output);
            apart = kindStep(XOR, ofOne, ofOther, NO);
            notePart(output, apart);
        }
        endSteps();
        return apart == NOTHING ? OUT : apart == NO ? 1 : 0;
    }

    public int parting(int what) {
        if (what < 0 || what > 1) {
            return OUTSIDE;
        }
        return what == 0 ? partedOutput : partedAssignment;
    }

    public int told(int what) {
        if (what < 0 || what > 2 * NETS + 1) {
            return OUTSIDE;
        }
        if (what < NETS) {
            return nets[what].gateCount();
        }
        if (what < 2 * NETS) {
            return nets[what - NETS].outputCount();
        }
        return what == 2 * NETS ? heldCount() : pool.limit();
    }

    // ---- what numbers are as told

    private static boolean isNet(int net) {
        return net >= 0 && net < NETS;
    }

    // Places of the order are numbered as variables are.
    private static boolean isVariable(int v) {
        return v >= 0 && v < VARIABLES;
    }

    private static boolean isAssignment(int assignment) {
        return assignment >= 0 && assignment < ASSIGNMENTS;
    }

    private static boolean isHandle(int h) {
        return h >= 0 && h < HANDLES;
    }

    private boolean hasFunction(int f) {
        return isHandle(f) && held[f] != NOTHING;
    }

    private int heldCount() {
        int having = 0;
        for (int h = 0; h < HANDLES; h++) {
            if (held[h] != NOTHING) {
                having++;
            }
        }
        return having;
    }

    // ---- steps

    private void beginSteps() {
        mostInUse = 0;
    }

    private void endSteps() {
        keptCount = 0;
        Arrays.fill(ofGate, NOTHING);
    }

    private int give(int h, int made) {
        endSteps();
        if (made == NOTHING) {
            return OUT;
        }
        held[h] = made;
        return pool.nodeCount(made);
    }

    private int keep(int made) {
        if (made != NOTHING && keptCount < MOST_KEPT) {
            kept[keptCount] = made;
            keptCount++;
        }
        return made;
    }

    private int kindStep(int kind, int a, int b, int c) {
        if (a == NOTHING || b == NOTHING || c == NOTHING) {
            return NOTHING;
        }
        collect();
        return measured(pool.make(TABLES[kind], a, b, c));
    }

    private int variableStep(int v) {
        collect();
        return measured(pool.makeVariable(places.placeOf(v)));
    }

    private int fixStep(int function, int v, boolean yes) {
        collect();
        return measured(pool.makeFixed(function, places.placeOf(v), yes));
    }

    private int measured(int made) {
        int inUseNow = made == NOTHING ? pool.limit() + 1 : pool.usedCount();
        mostInUse = Math.max(mostInUse, inUseNow);
        return made;
    }

    // Behind it the pool has just what is in use. A step makes no node that its function has not, so what the pool has
    // after a step is in use too, and the pool runs full just when more than the room would be in use.
    private void collect() {
        pool.unmark();
        for (int h = 0; h < HANDLES; h++) {
            pool.mark(held[h]);
        }
        for (int g = 0; g < GATES; g++) {
            pool.mark(ofGate[g]);
        }
        for (int k = 0; k < keptCount; k++) {
            pool.mark(kept[k]);
        }
        pool.sweep();
    }

    private int building(Net net, int output) {
        int last = net.findNeeds(output, lastNeed);
        for (int g = 0; g <= last; g++) {
            if (lastNeed[g] == NOTHING) {
                continue;
            }
            int kind = net.kindOf(g);
            int made = kind == OF_VARIABLE ? variableStep(net.operand(g, 0))
                    : kindStep(kind, madeFor(net, g, 0), madeFor(net, g, 1), madeFor(net, g, 2));
            if (made == NOTHING) {
                return NOTHING;
            }
            ofGate[g] = made;
            letGoBehind(net, g);
        }
        int made = keep(ofGate[last]);
        ofGate[last] = NOTHING;
        return made;
    }

    private int madeFor(Net net, int g, int i) {
        return i < OPERANDS[net.kindOf(g)] ? ofGate[net.operand(g, i)] : NO;
    }

    private void letGoBehind(Net net, int g) {
        int looked = OPERANDS[net.kindOf(g)];
        for (int i = 0; i < looked; i++) {
            int needed = net.operand(g, i);
            if (lastNeed[needed] == g) {
                ofGate[needed] = NOTHING;
            }
        }
    }

    private void notePart(int output, int apart) {
        if (apart != NOTHING && apart != NO) {
            partedOutput = output;
            partedAssignment = pool.leastFor(apart, YES, places);
        }
    }

    /** A net: its gates, each told of gates before it, and its outputs. */
    private static final class Net {
        private final int[] kinds = new int[GATES];
        private final int[] operands = new int[MOST_OPERANDS * GATES];
        private final int[] outputGates = new int[OUTPUTS];
        private final int[] ofGates = new int[GATES];
        private int gates = 0;
        private int outputs = 0;

        Net() {
        }

        int gateCount() {
            return gates;
        }

        int outputCount() {
            return outputs;
        }

        boolean hasGate(int gate) {
            return gate >= 0 && gate < gates;
        }

        boolean hasOutput(int output) {
            return output >= 0 && output < outputs;
        }

        boolean hasOperands(int kind, int a, int b, int c) {
            int looked = OPERANDS[kind];
            return (looked < 1 || hasGate(a)) && (looked < 2 || hasGate(b)) && (looked < 3 || hasGate(c));
        }

        int addGate(int kind, int a, int b, int c) {
            if (gates >= GATES) {
                return FULL;
            }
            kinds[gates] = kind;
            operands[MOST_OPERANDS * gates] = a;
            operands[MOST_OPERANDS * gates + 1] = b;
            operands[MOST_OPERANDS * gates + 2] = c;
            gates++;
            return gates - 1;
        }

        int addOutput(int gate) {
            if (outputs >= OUTPUTS) {
                return FULL;
            }
            outputGates[outputs] = gate;
            outputs++;
            return outputs - 1;
        }

        int empty() {
            int had = gates;
            gates = 0;
            outputs = 0;
            return had;
        }

        int kindOf(int gate) {
            return kinds[gate];
        }

        // Of a gate that is a variable, operand 0 is the variable.
        int operand(int gate, int i) {
            return operands[MOST_OPERANDS * gate + i];
        }

        int outputValue(int output, int assignment) {
            int last = outputGates[output];
            for (int g = 0; g <= last; g++) {
                ofGates[g] = gateValue(g, assignment);
            }
            return ofGates[last];
        }

        private int gateValue(int gate, int assignment) {
            int kind = kinds[gate];
            if (kind == OF_VARIABLE) {
                return assignment >> operand(gate, 0) & 1;
            }
            int row = 0;
            for (int i = 0; i < OPERANDS[kind]; i++) {
                row |= ofGates[operand(gate, i)] << i;
            }
            return TABLES[kind] >> row & 1;
        }

        /** Tells the output's gate, and for each gate that it needs the last one to need it (its own: itself). */
        int findNeeds(int output, int[] lastNeed) {
            Arrays.fill(lastNeed, NOTHING);
            int last = outputGates[output];
            lastNeed[last] = last;
            for (int g = last; g >= 0; g--) {
                if (lastNeed[g] != NOTHING) {
                    noteNeedsOf(g, lastNeed);
                }
            }
            return last;
        }

        private void noteNeedsOf(int gate, int[] lastNeed) {
            for (int i = 0; i < OPERANDS[kinds[gate]]; i++) {
                int needed = operand(gate, i);
                if (lastNeed[needed] == NOTHING) {
                    lastNeed[needed] = gate;
                }
            }
        }

        void meetVariables(Order places) {
            Arrays.fill(ofGates, 0);
            for (int output = 0; output < outputs; output++) {
                goInto(outputGates[output], places, 0);
            }
        }

        private void goInto(int gate, Order places, int depth) {
            if (depth >= GATES || ofGates[gate] != 0) {
                return;
            }
            ofGates[gate] = 1;
            if (kinds[gate] == OF_VARIABLE) {
                places.meet(operand(gate, 0));
            }
            for (int i = 0; i < OPERANDS[kinds[gate]]; i++) {
                goInto(operand(gate, i), places, depth + 1);
            }
        }
    }

    /** The order: which variable is at which place. */
    private static final class Order {
        private final int[] variables = new int[VARIABLES];
        private final int[] placesOf = new int[VARIABLES];
        private int met = 0;

        Order() {
            for (int v = 0; v < VARIABLES; v++) {
                variables[v] = v;
                placesOf[v] = v;
            }
        }

        int variableAt(int place) {
            return variables[place];
        }

        int placeOf(int variable) {
            return placesOf[variable];
        }

        void forget() {
            Arrays.fill(placesOf, NOTHING);
            met = 0;
        }

        void meet(int variable) {
            if (placesOf[variable] == NOTHING && met < VARIABLES) {
                put(variable, met);
                met++;
            }
        }

        int meetOthers() {
            int before = met;
            for (int v = 0; v < VARIABLES; v++) {
                meet(v);
            }
            return before;
        }

        int moveTo(int variable, int place) {
            int from = placesOf[variable];
            for (int p = from; p < place; p++) {
                put(variables[p + 1], p);
            }
            for (int p = from; p > place; p--) {
                put(variables[p - 1], p);
            }
            put(variable, place);
            return from;
        }

        private void put(int variable, int place) {
            variables[place] = variable;
            placesOf[variable] = place;
        }
    }

    /** The nodes: each stands for a function, at the place of the first variable that it hangs on; like ones are one. */
    private static final class Pool {
        private static final int SIZE = FIRST_NODE + MOST_ROOM;
        // Like nodes stand in one row, that of low ^ high: it is below the next power of two.
        private static final int ROWS = 256;
        private static final int END = -1;
        private static final int ALWAYS_NO = 0x00, ALWAYS_YES = 0xFF, AS_A = 0xAA, AS_B = 0xCC, AS_C = 0xF0;
        private static final int ONE = 1, OTHER = 2;

        private final int[] places = new int[SIZE];
        private final int[] lows = new int[SIZE];
        private final int[] highs = new int[SIZE];
        private final int[] marks = new int[SIZE];
        // The chain of a row of like hashes, or of the free nodes.
        private final int[] next = new int[SIZE];
        private final int[] rows = new int[ROWS];
        private int firstFree = END;
        private int used = 0;
        private int most = MOST_ROOM;

        Pool() {
            places[NO] = VARIABLES;
            places[YES] = VARIABLES;
            sweep();
        }

        int limit() {
            return most;
        }

        int changeLimit(int n) {
            int before = most;
            most = n;
            return before;
        }

        int usedCount() {
            return used;
        }

        int placeOf(int node) {
            return places[node];
        }

        // ---- marks

        void unmark() {
            Arrays.fill(marks, 0);
        }

        void mark(int node) {
            markWith(ONE, node, 0);
        }

        private void markWith(int sign, int node, int depth) {
            if (node < FIRST_NODE || depth >= VARIABLES || (marks[node] & sign) != 0) {
                return;
            }
            marks[node] |= sign;
            markWith(sign, lows[node], depth + 1);
            markWith(sign, highs[node], depth + 1);
        }

        private int markedWith(int signs) {
            int marked = 0;
            for (int n = FIRST_NODE; n < SIZE; n++) {
                if (marks[n] == signs) {
                    marked++;
                }
            }
            return marked;
        }

        int nodeCount(int node) {
            unmark();
            mark(node);
            return markedWith(ONE);
        }

        int nodeCountAt(int node, int place) {
            unmark();
            mark(node);
            int found = 0;
            for (int n = FIRST_NODE; n < SIZE; n++) {
                if (marks[n] != 0 && places[n] == place) {
                    found++;
                }
            }
            return found;
        }

        int commonCount(int node, int other) {
            unmark();
            markWith(ONE, node, 0);
            markWith(OTHER, other, 0);
            return markedWith(ONE | OTHER);
        }

        /** All nodes that are not marked are free then. */
        void sweep() {
            Arrays.fill(rows, END);
            firstFree = END;
            used = 0;
            for (int n = SIZE - 1; n >= FIRST_NODE; n--) {
                if (marks[n] != 0) {
                    enter(n);
                } else {
                    next[n] = firstFree;
                    firstFree = n;
                }
            }
        }

        // ---- making: NOTHING where more nodes than the limit would be used

        int makeVariable(int place) {
            return nodeFor(place, NO, YES);
        }

        int make(int table, int a, int b, int c) {
            return makeFrom(table, a, b, c, 0);
        }

        private int makeFrom(int table, int a, int b, int c, int depth) {
            int left = knowing(knowing(knowing(table, a, 1, 0x55), b, 2, 0x33), c, 4, 0x0F);
            switch (left) {
                case ALWAYS_NO:
                    return NO;
                case ALWAYS_YES:
                    return YES;
                case AS_A:
                    return a;
                case AS_B:
                    return b;
                case AS_C:
                    return c;
                default:
                    break;
            }
            int place = Math.min(places[a], Math.min(places[b], places[c]));
            if (depth >= VARIABLES || place >= VARIABLES) {
                return NOTHING;
            }
            int low = makeFrom(left, lowAt(a, place), lowAt(b, place), lowAt(c, place), depth + 1);
            if (low == NOTHING) {
                return NOTHING;
            }
            int high = makeFrom(left, highAt(a, place), highAt(b, place), highAt(c, place), depth + 1);
            return nodeFor(place, low, high);
        }

        /** A table that no longer asks for an operand that is always no or yes; the mask has the rows where it is no. */
        private static int knowing(int table, int operand, int shift, int mask) {
            if (operand >= FIRST_NODE) {
                return table;
            }
            int answers = (operand == YES ? table >> shift : table) & mask;
            return answers | answers << shift;
        }

        private int lowAt(int node, int place) {
            return places[node] == place ? lows[node] : node;
        }

        private int highAt(int node, int place) {
            return places[node] == place ? highs[node] : node;
        }

        int makeFixed(int node, int place, boolean yes) {
            return fixFrom(node, place, yes, 0);
        }

        private int fixFrom(int node, int place, boolean yes, int depth) {
            if (places[node] > place) {
                return node;
            }
            if (places[node] == place) {
                return yes ? highs[node] : lows[node];
            }
            if (depth >= VARIABLES) {
                return NOTHING;
            }
            int low = fixFrom(lows[node], place, yes, depth + 1);
            if (low == NOTHING) {
                return NOTHING;
            }
            int high = fixFrom(highs[node], place, yes, depth + 1);
            return nodeFor(places[node], low, high);
        }

        private int nodeFor(int place, int low, int high) {
            if (high == NOTHING || low == high) {
                return high;
            }
            int n = rows[low ^ high];
            for (int tries = 0; n != END && tries < SIZE; tries++) {
                if (places[n] == place && lows[n] == low && highs[n] == high) {
                    return n;
                }
                n = next[n];
            }
            n = firstFree;
            if (used >= most || n == END) {
                return NOTHING;
            }
            firstFree = next[n];
            places[n] = place;
            lows[n] = low;
            highs[n] = high;
            enter(n);
            return n;
        }

        private void enter(int n) {
            int row = lows[n] ^ highs[n];
            next[n] = rows[row];
            rows[row] = n;
            used++;
        }

        // ---- what a function gives

        int valueFor(int node, int assignment, Order order) {
            int n = node;
            for (int depth = 0; depth < VARIABLES && n >= FIRST_NODE; depth++) {
                boolean yes = (assignment >> order.variableAt(places[n]) & 1) == 1;
                n = yes ? highs[n] : lows[n];
            }
            return n == YES ? 1 : 0;
        }

        /** The least assignment that comes to an end (NO or YES): every other node comes to both of them. */
        int leastFor(int node, int end, Order order) {
            int n = node;
            int assignment = 0;
            for (int depth = 0; depth < VARIABLES && n >= FIRST_NODE; depth++) {
                if (lows[n] >= FIRST_NODE || lows[n] == end) {
                    n = lows[n];
                } else {
                    assignment |= 1 << order.variableAt(places[n]);
                    n = highs[n];
                }
            }
            return n == end ? assignment : NONE;
        }

        int pathCount(int node, int end) {
            return pathsFrom(node, end, 0);
        }

        private int pathsFrom(int node, int end, int depth) {
            if (node < FIRST_NODE || depth >= VARIABLES) {
                return node == end ? 1 : 0;
            }
            return pathsFrom(lows[node], end, depth + 1) + pathsFrom(highs[node], end, depth + 1);
        }
    }
}
