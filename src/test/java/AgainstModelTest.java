import java.util.Random;

/** Promises 1 to 33: random runs of calls, each answer held against that of the plain model. */
public final class AgainstModelTest {
    private static final int RUNS = 400, DENSE_RUNS = 60, CALLS = 512;
    private static final int[] RICH = {3, 4, 5, 6, 6, 6, 7, 8, 9, 10, 10, 10, 10};

    private final DiagramBench x = new DiagramBench();
    private final Model m = new Model();
    private final Random random;
    private final int run;
    private final int roomy;
    private final int[] gates = new int[3];

    private AgainstModelTest(int run) {
        this.run = run;
        random = new Random(7919L * run + 1);
        roomy = new int[] {250, 120, 60, 30, 12}[run % 5];
    }

    public static void main(String[] args) {
        for (int run = 0; run < RUNS; run++) {
            new AgainstModelTest(run).go();
        }
        for (int run = RUNS; run < RUNS + DENSE_RUNS; run++) {
            new AgainstModelTest(run).goDense();
        }
        Due.end();
    }

    private void go() {
        if (run % 4 != 0) {
            richNets();
        }
        for (int n = 0; n < CALLS; n++) {
            call(n);
        }
    }

    /** Functions of so many nodes that the whole room is in use. */
    private void goDense() {
        for (int v = 0; v < 8; v++) {
            int w = random.nextInt(8), p = random.nextInt(8);
            same(-1, "move " + w + " " + p, x.move(w, p), m.move(w, p));
        }
        for (int net = 0; net < 3; net++) {
            layeredNet(net);
        }
        for (int h = 0; h < 12; h++) {
            same(-1, "build " + h, x.build(h, h / 4, h % 4), m.build(h, h / 4, h % 4));
            same(-1, "peak", x.peak(), m.peak());
            same(-1, "inUse", x.inUse(), m.inUse());
        }
        for (int n = 0; n < 160; n++) {
            int h = random.nextInt(12);
            int f = random.nextInt(12), g = random.nextInt(12), k = random.nextInt(12), v = random.nextInt(8);
            boolean yes = random.nextBoolean();
            if (n % 20 == 19) {
                int to = random.nextInt(251);
                same(n, "room " + to, x.room(to), m.room(to));
                same(n, "build " + h, x.build(h, h / 4, h % 4), m.build(h, h / 4, h % 4));
            }
            switch (random.nextInt(8)) {
                case 0: case 1: case 2:
                    same(n, "choose " + h + " " + f + " " + g + " " + k, x.choose(h, f, g, k), m.choose(h, f, g, k));
                    break;
                case 3: case 4:
                    same(n, "combine " + h + " 6 " + f + " " + g, x.combine(h, 6, f, g), m.combine(h, 6, f, g));
                    break;
                case 5:
                    same(n, "compose " + h + " " + f + " " + v + " " + g, x.compose(h, f, v, g), m.compose(h, f, v, g));
                    break;
                case 6:
                    same(n, "quantify " + h + " " + f + " " + v, x.quantify(h, f, v, yes), m.quantify(h, f, v, yes));
                    break;
                default:
                    same(n, "restrict " + h + " " + f + " " + v, x.restrict(h, f, v, yes), m.restrict(h, f, v, yes));
            }
            same(n, "peak", x.peak(), m.peak());
            same(n, "inUse", x.inUse(), m.inUse());
            callTold(n);
        }
    }

    /** Each layer asks one variable, from the last place up, and goes on to gates of the layer below. */
    private void layeredNet(int net) {
        for (int p = 0; p < 8; p++) {
            tellGate(net, 0, x.at(p), 0, 0);
        }
        tellGate(net, 6, 6, 7, 0);
        tellGate(net, 4, 6, 7, 0);
        tellGate(net, 8, 6, 7, 0);
        int below = 6;
        for (int p = 5; p >= 0; p--) {
            int from = gates[net];
            for (int n = 0; n < Math.min(6, 29 / (7 - p)); n++) {
                tellGate(net, 10, p, below + random.nextInt(from - below), below + random.nextInt(from - below));
            }
            below = from;
        }
        for (int o = 0; o < 4; o++) {
            int g = gates[net] - 1 - o;
            same(-1, "output " + net + " " + g, x.output(net, g), m.output(net, g));
        }
    }

    /** Nets of all variables with functions of many nodes; net 1 is net 0 told otherwise, now and then with a slip. */
    private void richNets() {
        int last = 12 + random.nextInt(26);
        int slip = random.nextInt(3) == 0 ? random.nextInt(last) : -1;
        for (int g = 0; g < last; g++) {
            int kind = g < 8 ? 0 : RICH[random.nextInt(RICH.length)];
            int a = kind == 0 ? g : random.nextInt(g), b = g == 0 ? 0 : random.nextInt(g), c = g == 0 ? 0 : random.nextInt(g);
            tellGate(0, kind, a, b, c);
            boolean turned = kind >= 4 && kind <= 9 && random.nextBoolean();
            int slipped = g == slip && kind >= 4 && kind <= 8 ? kind + 1 : kind;
            tellGate(1, slipped, turned ? b : a, turned ? a : b, c);
            if (g < 8 || random.nextBoolean()) {
                tellGate(2, kind, a, gates[2] == 0 ? 0 : random.nextInt(gates[2]), gates[2] == 0 ? 0 : random.nextInt(gates[2]));
            }
        }
        for (int moves = random.nextInt(6); moves > 0; moves--) {
            int v = random.nextInt(8), p = random.nextInt(8);
            same(-1, "move " + v + " " + p, x.move(v, p), m.move(v, p));
        }
        int outputs = 1 + random.nextInt(4);
        for (int o = 0; o < outputs; o++) {
            int g = last - 1 - random.nextInt(Math.min(last, 8));
            for (int net = 0; net < 3; net++) {
                int of = Math.min(g, gates[net] - 1);
                same(-1, "output " + net + " " + of, x.output(net, of), m.output(net, of));
            }
        }
    }

    private void tellGate(int net, int kind, int a, int b, int c) {
        int got = x.gate(net, kind, a, b, c);
        if (got >= 0) {
            gates[net] = got + 1;
        }
        same(-1, "gate " + net + " " + kind + " " + a + " " + b + " " + c, got, m.gate(net, kind, a, b, c));
    }

    private void same(int n, String call, int got, int want) {
        Due.due("run " + run + ", call " + n + ": " + call, got, want);
    }

    /** A number below the bound, now and then one beside it. */
    private int pick(int bound) {
        int r = random.nextInt(60);
        return r == 0 ? -1 : r == 1 ? bound : random.nextInt(Math.max(1, bound));
    }

    /** A gate, the late ones more often, so that nets become deep. */
    private int pickGate(int net) {
        int known = net >= 0 && net < 3 ? gates[net] : 0;
        return random.nextInt(3) == 0 ? pick(known) : known - 1 - random.nextInt(Math.max(1, Math.min(known, 6)));
    }

    private void call(int n) {
        int r = random.nextInt(100);
        if (r < 42 && n < 140 && run % 4 == 0 || r < 4) {
            callGate();
        } else if (r < 48 && n < 160 && run % 4 == 0 || r < 6) {
            int net = pick(3), g = pickGate(net);
            same(n, "output " + net + " " + g, x.output(net, g), m.output(net, g));
        } else if (r < 20) {
            callOrder(n);
        } else if (r < 78) {
            callFunction(n);
            same(n, "peak", x.peak(), m.peak());
        } else if (r < 90) {
            callTold(n);
        } else {
            callTwoNets(n);
        }
        same(n, "inUse", x.inUse(), m.inUse());
    }

    private void callGate() {
        int net = pick(3);
        int known = net >= 0 && net < 3 ? gates[net] : 0;
        int kind = known < 4 + random.nextInt(5) ? random.nextInt(8) == 0 ? pick(11) : 0 : pick(11);
        int a = kind == 0 ? pick(8) : pickGate(net), b = pickGate(net), c = pickGate(net);
        tellGate(net, kind, a, b, c);
    }

    private void callOrder(int n) {
        int what = random.nextInt(12);
        if (what < 4) {
            int v = pick(8), p = pick(8);
            same(n, "move " + v + " " + p, x.move(v, p), m.move(v, p));
        } else if (what < 6) {
            int net = pick(3);
            same(n, "order " + net, x.order(net), m.order(net));
        } else if (what < 9) {
            int to = random.nextInt(3) == 0 ? random.nextInt(254) - 1 : roomy;
            same(n, "room " + to, x.room(to), m.room(to));
        } else if (what == 9 && random.nextInt(8) == 0) {
            int net = pick(3);
            if (net >= 0 && net < 3) {
                gates[net] = 0;
            }
            same(n, "clear " + net, x.clear(net), m.clear(net));
        } else if (what == 10 && random.nextInt(8) == 0) {
            for (int h = 0; h < 12; h++) {
                same(n, "drop " + h, x.drop(h), m.drop(h));
            }
        }
        for (int p = 0; p < 8; p++) {
            same(n, "at " + p, x.at(p), m.at(p));
        }
    }

    private void callFunction(int n) {
        int h = pick(12), f = pick(12), g = pick(12), k = pick(12), v = pick(8), net = pick(3), o = pick(4);
        boolean yes = random.nextBoolean();
        switch (random.nextInt(12)) {
            case 0: case 1: case 2:
                same(n, "build " + h + " " + net + " " + o, x.build(h, net, o), m.build(h, net, o));
                break;
            case 3:
                same(n, "variable " + h + " " + v, x.variable(h, v), m.variable(h, v));
                break;
            case 4: case 5: case 6:
                int kind = pick(10);
                same(n, "combine " + h + " " + kind + " " + f + " " + g, x.combine(h, kind, f, g), m.combine(h, kind, f, g));
                break;
            case 7:
                same(n, "choose " + h + " " + f + " " + g + " " + k, x.choose(h, f, g, k), m.choose(h, f, g, k));
                break;
            case 8:
                same(n, "restrict " + h + " " + f + " " + v, x.restrict(h, f, v, yes), m.restrict(h, f, v, yes));
                break;
            case 9:
                same(n, "quantify " + h + " " + f + " " + v, x.quantify(h, f, v, yes), m.quantify(h, f, v, yes));
                break;
            case 10:
                same(n, "compose " + h + " " + f + " " + v + " " + g, x.compose(h, f, v, g), m.compose(h, f, v, g));
                break;
            default:
                if (random.nextBoolean()) {
                    same(n, "share " + h + " " + f, x.share(h, f), m.share(h, f));
                } else {
                    same(n, "drop " + h, x.drop(h), m.drop(h));
                }
        }
    }

    private void callTold(int n) {
        int f = pick(12), g = pick(12), v = pick(8), s = random.nextInt(260) - 2, net = pick(3), o = pick(4);
        same(n, "nodes " + f, x.nodes(f), m.nodes(f));
        same(n, "common " + f + " " + g, x.common(f, g), m.common(f, g));
        same(n, "value " + f + " " + s, x.value(f, s), m.value(f, s));
        same(n, "same " + f + " " + g, x.same(f, g), m.same(f, g));
        same(n, "count " + f, x.count(f), m.count(f));
        same(n, "support " + f, x.support(f), m.support(f));
        same(n, "top " + f, x.top(f), m.top(f));
        same(n, "level " + f + " " + v, x.level(f, v), m.level(f, v));
        same(n, "least yes " + f, x.least(f, true), m.least(f, true));
        same(n, "least no " + f, x.least(f, false), m.least(f, false));
        same(n, "paths yes " + f, x.paths(f, true), m.paths(f, true));
        same(n, "paths no " + f, x.paths(f, false), m.paths(f, false));
        same(n, "gives " + net + " " + o + " " + s, x.gives(net, o, s), m.gives(net, o, s));
    }

    private void callTwoNets(int n) {
        int net = pick(3), other = pick(3);
        same(n, "equal " + net + " " + other, x.equal(net, other), m.equal(net, other));
        same(n, "peak", x.peak(), m.peak());
        for (int what = -1; what < 3; what++) {
            same(n, "parting " + what, x.parting(what), m.parting(what));
        }
        for (int what = -1; what < 9; what++) {
            same(n, "told " + what, x.told(what), m.told(what));
        }
    }
}
