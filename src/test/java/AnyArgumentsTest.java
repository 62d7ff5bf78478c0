import java.util.Random;

/** No call throws, whatever its arguments and the state: numbers at and beyond every edge, in random runs of calls. */
public final class AnyArgumentsTest {
    private static final int[] EDGES = {Integer.MIN_VALUE, Integer.MIN_VALUE + 1, -256, -9, -5, -1, 0, 1, 2, 3, 4, 7, 8, 9,
        10, 11, 12, 39, 40, 41, 249, 250, 251, 252, 255, 256, 1 << 16, Integer.MAX_VALUE - 1, Integer.MAX_VALUE};

    private final Random random;
    private final DiagramBench x = new DiagramBench();

    private AnyArgumentsTest(long seed) {
        random = new Random(seed);
    }

    public static void main(String[] args) {
        for (int run = 0; run < 300; run++) {
            new AnyArgumentsTest(run).go();
        }
        Due.end();
    }

    private void go() {
        for (int n = 0; n < 512; n++) {
            int what = random.nextInt(33);
            int answer = what < 17 ? change(what) : ask(what);
            Due.holds("call " + what + " answers one of its numbers", answer >= -5 && answer <= 256 || answer == -9);
        }
    }

    private int any(int usual) {
        return random.nextInt(5) == 0 ? EDGES[random.nextInt(EDGES.length)] : random.nextInt(usual);
    }

    private int change(int what) {
        boolean yes = random.nextBoolean();
        switch (what) {
            case 0: case 1: return x.gate(any(3), any(11), any(12), any(12), any(12));
            case 2: return x.output(any(3), any(20));
            case 3: return random.nextInt(20) == 0 ? x.clear(any(3)) : x.gate(any(3), 0, any(8), any(8), any(8));
            case 4: return x.order(any(3));
            case 5: return x.move(any(8), any(8));
            case 6: return x.room(any(251));
            case 7: return x.build(any(12), any(3), any(4));
            case 8: return x.variable(any(12), any(8));
            case 9: return x.combine(any(12), any(11), any(12), any(12));
            case 10: return x.choose(any(12), any(12), any(12), any(12));
            case 11: return x.restrict(any(12), any(12), any(8), yes);
            case 12: return x.quantify(any(12), any(12), any(8), yes);
            case 13: return x.compose(any(12), any(12), any(8), any(12));
            case 14: return x.share(any(12), any(12));
            case 15: return x.drop(any(12));
            default: return x.equal(any(3), any(3));
        }
    }

    private int ask(int what) {
        boolean yes = random.nextBoolean();
        switch (what) {
            case 17: return x.gives(any(3), any(4), any(256));
            case 18: return x.at(any(8));
            case 19: return x.nodes(any(12));
            case 20: return x.inUse();
            case 21: return x.common(any(12), any(12));
            case 22: return x.peak();
            case 23: return x.value(any(12), any(256));
            case 24: return x.same(any(12), any(12));
            case 25: return x.count(any(12));
            case 26: return x.support(any(12));
            case 27: return x.top(any(12));
            case 28: return x.level(any(12), any(8));
            case 29: return x.least(any(12), yes);
            case 30: return x.paths(any(12), yes);
            case 31: return x.parting(any(2));
            default: return x.told(any(8));
        }
    }
}
