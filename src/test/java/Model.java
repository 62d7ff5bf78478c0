import java.math.BigInteger;
import java.util.ArrayList;
import java.util.Arrays;
import java.util.HashMap;
import java.util.HashSet;
import java.util.List;
import java.util.Map;
import java.util.Set;
import java.util.TreeSet;

/** The document told a second time, by its definitions: a function is its table of 256 bits, its nodes a set of tables. */
final class Model {
    private static final int UNKNOWN = -1, OUTSIDE = -2, STATE = -3, FULL = -4, OUT = -5, NONE = -9;
    private static final BigInteger NO = BigInteger.ZERO;
    private static final BigInteger YES = BigInteger.ONE.shiftLeft(256).subtract(BigInteger.ONE);
    private static final BigInteger[] VARIABLE = new BigInteger[8];

    static {
        for (int v = 0; v < 8; v++) {
            VARIABLE[v] = NO;
            for (int s = 0; s < 256; s++) {
                if ((s >> v & 1) == 1) {
                    VARIABLE[v] = VARIABLE[v].setBit(s);
                }
            }
        }
    }

    private static final class OutOfRoom extends Exception {
        private static final long serialVersionUID = 1L;
    }

    private final List<List<int[]>> gates = List.of(new ArrayList<>(), new ArrayList<>(), new ArrayList<>());
    private final List<List<Integer>> outputs = List.of(new ArrayList<>(), new ArrayList<>(), new ArrayList<>());
    private List<Integer> order = new ArrayList<>(List.of(0, 1, 2, 3, 4, 5, 6, 7));
    private final BigInteger[] held = new BigInteger[12];
    private List<BigInteger> hand = new ArrayList<>();
    private final Map<BigInteger, Set<BigInteger>> known = new HashMap<>();
    private int room = 250;
    private int peak = 0;
    private int partedOutput = NONE;
    private int partedAssignment = NONE;

    private boolean net(int n) {
        return 0 <= n && n < 3;
    }

    private boolean gateOf(int net, int g) {
        return 0 <= g && g < gates.get(net).size();
    }

    private boolean outputOf(int net, int o) {
        return 0 <= o && o < outputs.get(net).size();
    }

    private boolean handle(int h) {
        return 0 <= h && h < 12;
    }

    private boolean has(int h) {
        return handle(h) && held[h] != null;
    }

    private static int looked(int kind) {
        return kind < 3 ? 0 : kind == 3 ? 1 : kind < 10 ? 2 : 3;
    }

    private static BigInteger not(BigInteger f) {
        return YES.xor(f);
    }

    private static BigInteger made(int kind, BigInteger a, BigInteger b, BigInteger c) {
        switch (kind) {
            case 1: return NO;
            case 2: return YES;
            case 3: return not(a);
            case 4: return a.and(b);
            case 5: return a.or(b);
            case 6: return a.xor(b);
            case 7: return not(a.and(b));
            case 8: return not(a.or(b));
            case 9: return not(a.xor(b));
            default: return a.and(b).or(not(a).and(c));
        }
    }

    private static BigInteger fixed(BigInteger f, int v, boolean yes) {
        if (yes) {
            BigInteger part = f.and(VARIABLE[v]);
            return part.or(part.shiftRight(1 << v));
        }
        BigInteger part = f.andNot(VARIABLE[v]);
        return part.or(part.shiftLeft(1 << v));
    }

    private Set<BigInteger> nodesOf(BigInteger f) {
        Set<BigInteger> found = known.get(f);
        if (found == null) {
            found = new HashSet<>();
            Set<BigInteger> parts = new HashSet<>(Set.of(f));
            found.addAll(parts);
            for (int v : order) {
                Set<BigInteger> next = new HashSet<>();
                for (BigInteger part : parts) {
                    next.add(fixed(part, v, false));
                    next.add(fixed(part, v, true));
                }
                parts = next;
                found.addAll(parts);
            }
            found.remove(NO);
            found.remove(YES);
            known.put(f, found);
        }
        return found;
    }

    private int used() {
        Set<BigInteger> all = new HashSet<>();
        for (BigInteger f : held) {
            if (f != null) {
                all.addAll(nodesOf(f));
            }
        }
        for (BigInteger f : hand) {
            all.addAll(nodesOf(f));
        }
        return all.size();
    }

    private BigInteger step(BigInteger f) throws OutOfRoom {
        hand.add(f);
        int now = used();
        if (now > room) {
            throw new OutOfRoom();
        }
        peak = Math.max(peak, now);
        return f;
    }

    private void need(int net, int g, Set<Integer> needed) {
        if (needed.add(g)) {
            int[] gate = gates.get(net).get(g);
            for (int i = 1; i <= looked(gate[0]); i++) {
                need(net, gate[i], needed);
            }
        }
    }

    private boolean looksAt(int net, int g, int of) {
        int[] gate = gates.get(net).get(g);
        for (int i = 1; i <= looked(gate[0]); i++) {
            if (gate[i] == of) {
                return true;
            }
        }
        return false;
    }

    private BigInteger building(int net, int output) throws OutOfRoom {
        Set<Integer> needed = new TreeSet<>();
        int own = outputs.get(net).get(output);
        need(net, own, needed);
        Map<Integer, BigInteger> functions = new HashMap<>();
        List<BigInteger> before = hand;
        for (int g : needed) {
            int[] gate = gates.get(net).get(g);
            BigInteger f = gate[0] == 0 ? VARIABLE[gate[1]]
                    : made(gate[0], functions.get(gate[1]), functions.get(gate[2]), functions.get(gate[3]));
            hand = new ArrayList<>(before);
            hand.addAll(functions.values());
            functions.put(g, step(f));
            for (int used : needed) {
                boolean later = used == own;
                for (int user : needed) {
                    later |= user > g && looksAt(net, user, used);
                }
                if (used <= g && !later) {
                    functions.remove(used);
                }
            }
        }
        hand = new ArrayList<>(before);
        hand.add(functions.get(own));
        return functions.get(own);
    }

    private interface Steps {
        BigInteger run() throws OutOfRoom;
    }

    private int give(int h, Steps steps) {
        peak = 0;
        hand = new ArrayList<>();
        try {
            held[h] = steps.run();
            return nodesOf(held[h]).size();
        } catch (OutOfRoom e) {
            peak = room + 1;
            return OUT;
        } finally {
            hand = new ArrayList<>();
        }
    }

    int gate(int net, int kind, int a, int b, int c) {
        if (!net(net)) return UNKNOWN;
        if (kind < 0 || kind > 10) return OUTSIDE;
        int[] told = {kind, a, b, c};
        for (int i = 1; i <= looked(kind); i++) {
            if (!gateOf(net, told[i])) return UNKNOWN;
        }
        if (kind == 0 && (a < 0 || a > 7)) return OUTSIDE;
        if (gates.get(net).size() == 40) return FULL;
        gates.get(net).add(told);
        return gates.get(net).size() - 1;
    }

    int output(int net, int gate) {
        if (!net(net) || !gateOf(net, gate)) return UNKNOWN;
        if (outputs.get(net).size() == 4) return FULL;
        outputs.get(net).add(gate);
        return outputs.get(net).size() - 1;
    }

    int clear(int net) {
        if (!net(net)) return UNKNOWN;
        int had = gates.get(net).size();
        gates.get(net).clear();
        outputs.get(net).clear();
        return had;
    }

    private boolean gateGives(int net, int g, int s) {
        boolean[] gave = new boolean[40];
        for (int n = 0; n <= g; n++) {
            int[] gate = gates.get(net).get(n);
            boolean a = looked(gate[0]) > 0 && gave[gate[1]];
            boolean b = looked(gate[0]) > 1 && gave[gate[2]];
            boolean c = looked(gate[0]) > 2 && gave[gate[3]];
            switch (gate[0]) {
                case 0: gave[n] = (s & 1 << gate[1]) != 0; break;
                case 1: gave[n] = false; break;
                case 2: gave[n] = true; break;
                case 3: gave[n] = !a; break;
                case 4: gave[n] = a && b; break;
                case 5: gave[n] = a || b; break;
                case 6: gave[n] = a != b; break;
                case 7: gave[n] = !(a && b); break;
                case 8: gave[n] = !(a || b); break;
                case 9: gave[n] = a == b; break;
                default: gave[n] = a ? b : c; break;
            }
        }
        return gave[g];
    }

    int gives(int net, int output, int s) {
        if (!net(net) || !outputOf(net, output)) return UNKNOWN;
        if (s < 0 || s > 255) return OUTSIDE;
        return gateGives(net, outputs.get(net).get(output), s) ? 1 : 0;
    }

    private void meet(int net, int g, Set<Integer> seen, List<Integer> met) {
        if (!seen.add(g)) return;
        int[] gate = gates.get(net).get(g);
        if (gate[0] == 0 && !met.contains(gate[1])) {
            met.add(gate[1]);
        }
        for (int i = 1; i <= looked(gate[0]); i++) {
            meet(net, gate[i], seen, met);
        }
    }

    private boolean anyHeld() {
        return told(6) > 0;
    }

    int order(int net) {
        if (!net(net)) return UNKNOWN;
        if (anyHeld()) return STATE;
        List<Integer> met = new ArrayList<>();
        Set<Integer> seen = new HashSet<>();
        for (int g : outputs.get(net)) {
            meet(net, g, seen, met);
        }
        int many = met.size();
        for (int v = 0; v < 8; v++) {
            if (!met.contains(v)) {
                met.add(v);
            }
        }
        order = met;
        known.clear();
        return many;
    }

    int move(int variable, int place) {
        if (variable < 0 || variable > 7 || place < 0 || place > 7) return OUTSIDE;
        if (anyHeld()) return STATE;
        int was = order.indexOf(variable);
        order.remove(was);
        order.add(place, variable);
        known.clear();
        return was;
    }

    int at(int place) {
        return place < 0 || place > 7 ? OUTSIDE : order.get(place);
    }

    int room(int n) {
        if (n < 0 || n > 250) return OUTSIDE;
        if (used() > n) return STATE;
        int was = room;
        room = n;
        return was;
    }

    int build(int h, int net, int output) {
        if (!handle(h) || !net(net) || !outputOf(net, output)) return UNKNOWN;
        return give(h, () -> building(net, output));
    }

    int variable(int h, int v) {
        if (!handle(h)) return UNKNOWN;
        if (v < 0 || v > 7) return OUTSIDE;
        return give(h, () -> step(VARIABLE[v]));
    }

    int combine(int h, int kind, int f, int g) {
        if (!handle(h)) return UNKNOWN;
        if (kind < 1 || kind > 9) return OUTSIDE;
        if (looked(kind) > 0 && !has(f) || looked(kind) > 1 && !has(g)) return UNKNOWN;
        BigInteger a = has(f) ? held[f] : null;
        BigInteger b = has(g) ? held[g] : null;
        return give(h, () -> step(made(kind, a, b, null)));
    }

    int choose(int h, int f, int g, int k) {
        if (!handle(h) || !has(f) || !has(g) || !has(k)) return UNKNOWN;
        return give(h, () -> step(made(10, held[f], held[g], held[k])));
    }

    int restrict(int h, int f, int v, boolean yes) {
        if (!handle(h) || !has(f)) return UNKNOWN;
        if (v < 0 || v > 7) return OUTSIDE;
        return give(h, () -> step(fixed(held[f], v, yes)));
    }

    int quantify(int h, int f, int v, boolean all) {
        if (!handle(h) || !has(f)) return UNKNOWN;
        if (v < 0 || v > 7) return OUTSIDE;
        return give(h, () -> {
            BigInteger no = step(fixed(held[f], v, false));
            BigInteger yes = step(fixed(held[f], v, true));
            return step(all ? no.and(yes) : no.or(yes));
        });
    }

    int compose(int h, int f, int v, int g) {
        if (!handle(h) || !has(f) || !has(g)) return UNKNOWN;
        if (v < 0 || v > 7) return OUTSIDE;
        return give(h, () -> {
            BigInteger no = step(fixed(held[f], v, false));
            BigInteger yes = step(fixed(held[f], v, true));
            return step(made(10, held[g], yes, no));
        });
    }

    int share(int h, int f) {
        if (!handle(h) || !has(f)) return UNKNOWN;
        held[h] = held[f];
        return 1;
    }

    int drop(int h) {
        if (!handle(h)) return UNKNOWN;
        int had = held[h] == null ? 0 : 1;
        held[h] = null;
        return had;
    }

    int nodes(int f) {
        return has(f) ? nodesOf(held[f]).size() : UNKNOWN;
    }

    int inUse() {
        return used();
    }

    int common(int f, int g) {
        if (!has(f) || !has(g)) return UNKNOWN;
        Set<BigInteger> both = new HashSet<>(nodesOf(held[f]));
        both.retainAll(nodesOf(held[g]));
        return both.size();
    }

    int peak() {
        return peak;
    }

    int value(int f, int s) {
        if (!has(f)) return UNKNOWN;
        if (s < 0 || s > 255) return OUTSIDE;
        return held[f].testBit(s) ? 1 : 0;
    }

    int same(int f, int g) {
        if (!has(f) || !has(g)) return UNKNOWN;
        return held[f].equals(held[g]) ? 1 : 0;
    }

    int count(int f) {
        return has(f) ? held[f].bitCount() : UNKNOWN;
    }

    private static boolean hangs(BigInteger f, int v) {
        return !fixed(f, v, false).equals(fixed(f, v, true));
    }

    private int firstOf(BigInteger f) {
        for (int v : order) {
            if (hangs(f, v)) return v;
        }
        return NONE;
    }

    int support(int f) {
        if (!has(f)) return UNKNOWN;
        int bits = 0;
        for (int v = 0; v < 8; v++) {
            bits |= hangs(held[f], v) ? 1 << v : 0;
        }
        return bits;
    }

    int top(int f) {
        return has(f) ? firstOf(held[f]) : UNKNOWN;
    }

    int level(int f, int v) {
        if (!has(f)) return UNKNOWN;
        if (v < 0 || v > 7) return OUTSIDE;
        int many = 0;
        for (BigInteger node : nodesOf(held[f])) {
            many += firstOf(node) == v ? 1 : 0;
        }
        return many;
    }

    private int byOrder(int s) {
        int rank = 0;
        for (int v : order) {
            rank = 2 * rank + (s >> v & 1);
        }
        return rank;
    }

    private int leastOf(BigInteger f) {
        int best = NONE;
        for (int s = 0; s < 256; s++) {
            if (f.testBit(s) && (best == NONE || byOrder(s) < byOrder(best))) {
                best = s;
            }
        }
        return best;
    }

    int least(int f, boolean yes) {
        return has(f) ? leastOf(yes ? held[f] : not(held[f])) : UNKNOWN;
    }

    private int pathsOf(BigInteger f, BigInteger end) {
        if (f.equals(NO) || f.equals(YES)) return f.equals(end) ? 1 : 0;
        int v = firstOf(f);
        return pathsOf(fixed(f, v, false), end) + pathsOf(fixed(f, v, true), end);
    }

    int paths(int f, boolean yes) {
        return has(f) ? pathsOf(held[f], yes ? YES : NO) : UNKNOWN;
    }

    int equal(int net, int other) {
        if (!net(net) || !net(other)) return UNKNOWN;
        int many = outputs.get(net).size();
        if (many != outputs.get(other).size()) return STATE;
        if (many == 0) return 1;
        peak = 0;
        hand = new ArrayList<>();
        try {
            for (int o = 0; o < many; o++) {
                BigInteger f = building(net, o);
                BigInteger g = building(other, o);
                BigInteger apart = step(f.xor(g));
                if (!apart.equals(NO)) {
                    partedOutput = o;
                    partedAssignment = leastOf(apart);
                    return 0;
                }
            }
            return 1;
        } catch (OutOfRoom e) {
            peak = room + 1;
            return OUT;
        } finally {
            hand = new ArrayList<>();
        }
    }

    int parting(int what) {
        return what == 0 ? partedOutput : what == 1 ? partedAssignment : OUTSIDE;
    }

    int told(int what) {
        if (what < 0 || what > 7) return OUTSIDE;
        if (what < 3) return gates.get(what).size();
        if (what < 6) return outputs.get(what - 3).size();
        return what == 7 ? room : (int) Arrays.stream(held).filter(f -> f != null).count();
    }
}
