import java.util.ArrayDeque;
import java.util.ArrayList;
import java.util.Arrays;
import java.util.Deque;
import java.util.List;
import java.util.Random;
import java.util.regex.Matcher;
import java.util.regex.Pattern;

/**
 * Random calls (the same ones at each run) on the class and on a model that is written in another
 * way: it counts what is HELD anew each time, keeps whole worlds to go back to, reads by patterns.
 */
public final class ModelTest {
    private static final int BAD = -1, NO = -2, FULL = -3, NONE = -4;
    private static final String[] NAMES = {"write", "wipe", "fault", "lay", "probe", "turn", "remove", "filter",
        "start", "step", "poke", "undo", "code", "memory", "processor", "returns", "ring", "look", "asked", "ever",
        "count"};
    private static final int[] ARGUMENTS = {1, 0, 0, 0, 2, 2, 1, 1, 3, 2, 2, 0, 2, 1, 2, 3, 3, 2, 1, 3, 1};
    private static final String[] CODES = {"l0z13c14s0j00hl1p2s1l0dr", "c03idr", "c00", "ic05hir", "c06c06hdr",
        "c04hic08rdr", "is0j00", "c03l0is0z00c00r", "j06irhc03c03j06", "iz05c05c08rj00", "c03c06c09ir", "i",
        "c07c07j00irj01", "c06j00c10s1j00irh"};
    private static final String[] FILTERS = {"a", "m0", "a5<", "a2=!", "m0a-1|", "am1<m0!&", "1234+++", "a1&", "0",
        "12", "+", "m8", "12345++++", "aa*m2=", ""};

    /** What later calls on one object answer is free. */
    private static final int MOST_CALLS = 512;

    private static int calls = 0;

    public static void main(String[] args) {
        for (int seed = 0; seed < 6000; seed++) {
            if (!run(new Random(seed), seed)) {
                System.exit(1);
            }
        }
        System.out.println(calls + " calls answered as the model does");
    }

    private static boolean run(Random chance, int seed) {
        CodeProbes x = new CodeProbes();
        Model model = new Model();
        List<String> done = new ArrayList<>();
        int wild = chance.nextInt(4) == 0 ? 8 : 60;
        while (done.size() < MOST_CALLS) {
            for (int[] call : someCalls(chance, wild)) {
                if (done.size() == MOST_CALLS) {
                    break;
                }
                int got = onClass(x, call);
                int want = model.answer(call);
                done.add(NAMES[call[0]] + Arrays.toString(Arrays.copyOfRange(call, 1, 1 + ARGUMENTS[call[0]])) + " " + got);
                calls++;
                if (got != want) {
                    System.out.println("seed " + seed + ": " + done + ": due is " + want);
                    return false;
                }
            }
        }
        return true;
    }

    private static List<int[]> someCalls(Random chance, int wild) {
        List<int[]> calls = new ArrayList<>();
        int kind = chance.nextInt(40);
        if (kind == 0) {
            tell(calls, chance.nextInt(3) == 0 ? someCode(chance) : CODES[chance.nextInt(CODES.length)]);
            calls.add(new int[] {2, 0, 0, 0});
            calls.add(new int[] {3, 0, 0, 0});
        } else if (kind < 4) {
            tell(calls, chance.nextInt(3) == 0 ? someFilter(chance) : FILTERS[chance.nextInt(FILTERS.length)]);
            calls.add(new int[] {18, chance.nextInt(1000), 0, 0});
            calls.add(new int[] {7, chance.nextInt(6), 0, 0});
        } else if (kind < 20) {
            calls.add(someCall(chance, new int[] {4, 4, 4, 5, 6, 8, 9, 9, 9, 9, 10, 11}[chance.nextInt(12)], wild));
        } else {
            calls.add(someCall(chance, chance.nextInt(30) == 0 ? chance.nextInt(21) : 12 + chance.nextInt(9), wild));
        }
        return calls;
    }

    private static void tell(List<int[]> calls, String letters) {
        calls.add(new int[] {1, 0, 0, 0});
        for (char letter : letters.toCharArray()) {
            calls.add(new int[] {0, letter, 0, 0});
        }
    }

    private static String someCode(Random chance) {
        StringBuilder code = new StringBuilder();
        int many = 1 + chance.nextInt(chance.nextInt(5) == 0 ? 40 : 8);
        for (int i = 0; i < many; i++) {
            char letter = "idlspjzccrrh".charAt(chance.nextInt(12));
            code.append(letter);
            if ("lsp".indexOf(letter) >= 0) {
                code.append(chance.nextInt(chance.nextInt(40) == 0 ? 10 : 8));
            } else if ("jzc".indexOf(letter) >= 0) {
                code.append(String.format("%02d", chance.nextInt(many)));
            }
        }
        return code.toString();
    }

    private static String someFilter(Random chance) {
        StringBuilder filter = new StringBuilder();
        int many = 1 + chance.nextInt(9);
        for (int i = 0; i < many; i++) {
            filter.append("aam059m1+-*<=&|!".charAt(chance.nextInt(16)));
        }
        return filter.toString();
    }

    private static int[] someCall(Random chance, int name, int wild) {
        int[] most = {126, 0, 0, 0, 1, 5, 5, 5, 1, 1, 7, 0, 30, 7, 1, 1, 1, 5, 999, 1, 6};
        int[] second = {0, 0, 0, 0, 30, 1, 0, 0, 30, 8, 4, 0, 1, 0, 6, 6, 4, 7, 0, 20, 0};
        int[] third = {0, 0, 0, 0, 0, 0, 0, 0, 5, 0, 0, 0, 0, 0, 0, 1, 2, 0, 0, 4, 0};
        int[] call = {name, chance.nextInt(most[name] + 1), chance.nextInt(second[name] + 1), chance.nextInt(third[name] + 1)};
        if (name == 9) {
            call[2] = chance.nextInt(5) == 0 ? 1 + chance.nextInt(60) : 1 + chance.nextInt(5);
        }
        if (chance.nextInt(wild) == 0) {
            int[] odd = {-1, -2, Integer.MIN_VALUE, Integer.MAX_VALUE, 2, 6, 7, 8, 31, 59, 60, 61, 127, 200, 999, 1000};
            call[1 + chance.nextInt(3)] = odd[chance.nextInt(odd.length)];
        }
        return call;
    }

    private static int onClass(CodeProbes x, int[] call) {
        int a = call[1], b = call[2], c = call[3];
        return switch (call[0]) {
            case 0 -> x.write(a);
            case 1 -> x.wipe();
            case 2 -> x.fault();
            case 3 -> x.lay();
            case 4 -> x.probe(a, b);
            case 5 -> x.turn(a, b);
            case 6 -> x.remove(a);
            case 7 -> x.filter(a);
            case 8 -> x.start(a, b, c);
            case 9 -> x.step(a, b);
            case 10 -> x.poke(a, b);
            case 11 -> x.undo();
            case 12 -> x.code(a, b);
            case 13 -> x.memory(a);
            case 14 -> x.processor(a, b);
            case 15 -> x.returns(a, b, c);
            case 16 -> x.ring(a, b, c);
            case 17 -> x.look(a, b);
            case 18 -> x.asked(a);
            case 19 -> x.ever(a, b, c);
            default -> x.count(a);
        };
    }

    private static final class Runner {
        int cell, acc, steps, lost;
        boolean halted;
        List<int[]> returns = new ArrayList<>();
        List<int[]> ring = new ArrayList<>();

        Runner twin() {
            Runner other = new Runner();
            other.cell = cell;
            other.acc = acc;
            other.steps = steps;
            other.lost = lost;
            other.halted = halted;
            for (int[] one : returns) {
                other.returns.add(one.clone());
            }
            other.ring.addAll(ring);
            return other;
        }
    }

    private static final class Laid {
        String state = "GONE";
        int kind, cell, hits, filtered, missed;
        String filter = "";

        Laid twin() {
            Laid other = new Laid();
            other.state = state;
            other.kind = kind;
            other.cell = cell;
            other.hits = hits;
            other.filtered = filtered;
            other.missed = missed;
            other.filter = filter;
            return other;
        }
    }

    private static final class World {
        int[] memory = new int[8];
        Runner[] runners = {new Runner(), new Runner()};
        Laid[] probes = {new Laid(), new Laid(), new Laid(), new Laid(), new Laid(), new Laid()};

        World twin() {
            World other = new World();
            other.memory = memory.clone();
            for (int c = 0; c < 2; c++) {
                other.runners[c] = runners[c].twin();
            }
            for (int p = 0; p < 6; p++) {
                other.probes[p] = probes[p].twin();
            }
            return other;
        }

        int holds(int p) {
            int many = 0;
            for (Runner runner : runners) {
                for (int[] one : runner.returns) {
                    many += one[1] == p ? 1 : 0;
                }
            }
            return many;
        }

        void bury() {
            for (int p = 0; p < 6; p++) {
                if (probes[p].state.equals("DYING") && holds(p) == 0) {
                    probes[p].state = "GONE";
                }
            }
        }

        int how(String state) {
            int many = 0;
            for (Laid one : probes) {
                many += one.state.equals(state) ? 1 : 0;
            }
            return many;
        }

        int lyingOn(int cell) {
            for (int p = 0; p < 6; p++) {
                if (!probes[p].state.equals("GONE") && probes[p].cell == cell) {
                    return p;
                }
            }
            return -1;
        }
    }

    private static final class Model {
        private static final Pattern INSTRUCTION = Pattern.compile("[idrh]|[lsp][0-7]|[jzc][0-9][0-9]");
        String text = "";
        String code = CODES[0];
        World now = new World();
        Deque<World> past = new ArrayDeque<>();

        static boolean in(int number, int least, int most) {
            return least <= number && number <= most;
        }

        static List<Integer> beginnings(String code) {
            List<Integer> places = new ArrayList<>();
            Matcher matcher = INSTRUCTION.matcher(code);
            int at = 0;
            while (at < code.length() && matcher.region(at, code.length()).lookingAt()) {
                places.add(at);
                at = matcher.end();
            }
            return places;
        }

        static int faultOf(String code) {
            List<Integer> places = beginnings(code);
            int end = 0;
            for (int place : places) {
                end = place + ("lsp".indexOf(code.charAt(place)) >= 0 ? 2 : "jzc".indexOf(code.charAt(place)) >= 0 ? 3 : 1);
                if (end > 60) {
                    return place;
                }
            }
            if (end < code.length()) {
                return end;
            }
            for (int place : places) {
                if ("jzc".indexOf(code.charAt(place)) >= 0
                    && !places.contains(Integer.parseInt(code.substring(place + 1, place + 3)))) {
                    return place;
                }
            }
            return NONE;
        }

        /** By making the FILTER shorter from the left; null if it is not SOUND. */
        static Integer value(String filter, int acc, int[] memory) {
            List<Integer> stack = new ArrayList<>();
            String rest = filter;
            while (!rest.isEmpty()) {
                String sign = rest.matches("m[0-7].*") ? rest.substring(0, 2) : rest.substring(0, 1);
                rest = rest.substring(sign.length());
                int size = stack.size();
                if (sign.length() == 2) {
                    stack.add(memory[sign.charAt(1) - '0']);
                } else if (sign.equals("a")) {
                    stack.add(acc);
                } else if (sign.matches("[0-9]")) {
                    stack.add(Integer.parseInt(sign));
                } else if (sign.equals("!") && size >= 1) {
                    stack.set(size - 1, stack.get(size - 1) == 0 ? 1 : 0);
                } else if ("+-*<=&|".contains(sign) && size >= 2) {
                    int y = stack.remove(size - 1), x = stack.remove(size - 2);
                    stack.add(switch (sign) {
                        case "+" -> Math.floorMod(x + y, 1000);
                        case "-" -> Math.floorMod(x - y, 1000);
                        case "*" -> Math.floorMod(x * y, 1000);
                        case "<" -> x < y ? 1 : 0;
                        case "=" -> x == y ? 1 : 0;
                        case "&" -> x * y != 0 ? 1 : 0;
                        default -> x + y != 0 ? 1 : 0;
                    });
                } else {
                    return null;
                }
                if (stack.size() > 4) {
                    return null;
                }
            }
            return stack.size() == 1 ? stack.get(0) : null;
        }

        void keep() {
            past.push(now.twin());
            while (past.size() > 4) {
                past.removeLast();
            }
        }

        boolean begins(int cell) {
            return beginnings(code).contains(cell);
        }

        boolean isCell(int cell) {
            return in(cell, 0, code.length() - 1);
        }

        boolean isProbe(int p) {
            return in(p, 0, 5) && !now.probes[p].state.equals("GONE");
        }

        /** One STEP on a world; false if it HALTED without one. */
        boolean go(World world, int c) {
            Runner me = world.runners[c];
            if (!begins(me.cell)) {
                me.halted = true;
                return false;
            }
            me.steps += 1;
            int p = world.lyingOn(me.cell);
            int[] top = me.returns.isEmpty() ? null : me.returns.get(me.returns.size() - 1);
            if (p >= 0 && world.probes[p].state.equals("ON")) {
                if (world.probes[p].kind == 0) {
                    hit(world, me, p);
                } else if (top == null || top[1] >= 0 || world.holds(p) >= 3) {
                    world.probes[p].missed += 1;
                } else {
                    top[1] = p;
                }
            }
            String instruction = code.substring(me.cell, Math.min(me.cell + 3, code.length()));
            char letter = instruction.charAt(0);
            int k = "lsp".indexOf(letter) >= 0 ? instruction.charAt(1) - '0' : 0;
            int nn = "jzc".indexOf(letter) >= 0 ? Integer.parseInt(instruction.substring(1, 3)) : 0;
            switch (letter) {
                case 'i' -> { me.acc = me.acc == 999 ? 0 : me.acc + 1; me.cell += 1; }
                case 'd' -> { me.acc = me.acc == 0 ? 999 : me.acc - 1; me.cell += 1; }
                case 'l' -> { me.acc = world.memory[k]; me.cell += 2; }
                case 's' -> { world.memory[k] = me.acc; me.cell += 2; }
                case 'p' -> { me.acc = (me.acc + world.memory[k]) % 1000; me.cell += 2; }
                case 'j' -> me.cell = nn;
                case 'z' -> me.cell = me.acc == 0 ? nn : me.cell + 3;
                case 'c' -> {
                    if (me.returns.size() == 6) {
                        me.halted = true;
                    } else {
                        me.returns.add(new int[] {me.cell + 3, -1});
                        me.cell = nn;
                    }
                }
                case 'r' -> {
                    if (top == null) {
                        me.halted = true;
                    } else {
                        me.returns.remove(me.returns.size() - 1);
                        me.cell = top[0];
                        if (top[1] >= 0 && world.probes[top[1]].state.equals("ON")) {
                            hit(world, me, top[1]);
                        }
                        world.bury();
                    }
                }
                default -> me.halted = true;
            }
            return true;
        }

        void hit(World world, Runner me, int p) {
            Laid probe = world.probes[p];
            probe.hits += 1;
            if (!probe.filter.isEmpty() && value(probe.filter, me.acc, world.memory) == 0) {
                probe.filtered += 1;
                return;
            }
            me.ring.add(new int[] {p, me.acc, me.steps});
            if (me.ring.size() > 4) {
                me.ring.remove(0);
                me.lost += 1;
            }
        }

        int answer(int[] call) {
            int a = call[1], b = call[2], c = call[3];
            return switch (call[0]) {
                case 0 -> write(a);
                case 1 -> wipe();
                case 2 -> faultOf(text);
                case 3 -> lay();
                case 4 -> probe(a, b);
                case 5 -> turn(a, b);
                case 6 -> remove(a);
                case 7 -> filter(a);
                case 8 -> start(a, b, c);
                case 9 -> step(a, b);
                case 10 -> poke(a, b);
                case 11 -> undo();
                case 12 -> !isCell(a) || !in(b, 0, 1) ? BAD : b == 0 && isOn(a) ? '!' : code.charAt(a);
                case 13 -> in(a, 0, 7) ? now.memory[a] : BAD;
                case 14 -> in(a, 0, 1) && in(b, 0, 6) ? facts(now.runners[a])[b] : BAD;
                case 15 -> returns(a, b, c);
                case 16 -> !in(a, 0, 1) || b < 0 || !in(c, 0, 2) ? BAD
                    : b >= now.runners[a].ring.size() ? NONE : now.runners[a].ring.get(b)[c];
                case 17 -> look(a, b);
                case 18 -> asked(a);
                case 19 -> ever(a, b, c);
                default -> count(a);
            };
        }

        boolean isOn(int cell) {
            int p = now.lyingOn(cell);
            return p >= 0 && now.probes[p].state.equals("ON");
        }

        int[] facts(Runner one) {
            return new int[] {one.cell, one.acc, one.returns.size(), one.halted ? 1 : 0, one.steps, one.ring.size(), one.lost};
        }

        int write(int letter) {
            if (!in(letter, 32, 126)) {
                return BAD;
            }
            if (text.length() == 200) {
                return FULL;
            }
            text += (char) letter;
            return text.length();
        }

        int wipe() {
            int was = text.length();
            text = "";
            return was;
        }

        int lay() {
            if (text.isEmpty() || faultOf(text) != NONE) {
                return NO;
            }
            code = text;
            now = new World();
            past.clear();
            return code.length();
        }

        int probe(int kind, int cell) {
            if (!in(kind, 0, 1) || !isCell(cell)) {
                return BAD;
            }
            if (!begins(cell) || now.lyingOn(cell) >= 0) {
                return NO;
            }
            for (int p = 0; p < 6; p++) {
                if (!isProbe(p)) {
                    keep();
                    now.probes[p] = new Laid();
                    now.probes[p].state = "ON";
                    now.probes[p].kind = kind;
                    now.probes[p].cell = cell;
                    return p;
                }
            }
            return FULL;
        }

        int turn(int p, int is) {
            if (!isProbe(p) || !in(is, 0, 1)) {
                return BAD;
            }
            String wanted = is == 1 ? "ON" : "OFF";
            if (now.probes[p].state.equals("DYING") || now.probes[p].state.equals(wanted)) {
                return NO;
            }
            keep();
            now.probes[p].state = wanted;
            return now.how("ON");
        }

        int remove(int p) {
            if (!isProbe(p)) {
                return BAD;
            }
            if (now.probes[p].state.equals("DYING")) {
                return NO;
            }
            keep();
            now.probes[p].state = "DYING";
            now.bury();
            return isProbe(p) ? 0 : 1;
        }

        int filter(int p) {
            if (!isProbe(p)) {
                return BAD;
            }
            if (!text.isEmpty() && value(text, 0, now.memory) == null) {
                return NO;
            }
            keep();
            now.probes[p].filter = text;
            return text.length();
        }

        int start(int c, int cell, int acc) {
            if (!in(c, 0, 1) || !isCell(cell) || !in(acc, 0, 999)) {
                return BAD;
            }
            if (!begins(cell)) {
                return NO;
            }
            keep();
            Runner me = now.runners[c];
            int held = 0;
            for (int[] one : me.returns) {
                held += one[1] >= 0 ? 1 : 0;
            }
            me.returns.clear();
            me.cell = cell;
            me.acc = acc;
            me.halted = false;
            now.bury();
            return held;
        }

        int step(int c, int n) {
            if (!in(c, 0, 1) || !in(n, 1, 60)) {
                return BAD;
            }
            if (now.runners[c].halted) {
                return NO;
            }
            keep();
            int did = 0;
            while (did < n && !now.runners[c].halted && go(now, c)) {
                did++;
            }
            return did;
        }

        int poke(int k, int v) {
            if (!in(k, 0, 7) || !in(v, 0, 999)) {
                return BAD;
            }
            int was = now.memory[k];
            if (was == v) {
                return NO;
            }
            keep();
            now.memory[k] = v;
            return was;
        }

        int undo() {
            if (past.isEmpty()) {
                return NO;
            }
            now = past.pop();
            return past.size();
        }

        int returns(int c, int k, int real) {
            if (!in(c, 0, 1) || k < 0 || !in(real, 0, 1)) {
                return BAD;
            }
            List<int[]> all = now.runners[c].returns;
            if (k >= all.size()) {
                return NONE;
            }
            return real == 0 && all.get(k)[1] >= 0 ? 99 : all.get(k)[0];
        }

        int look(int p, int what) {
            if (!in(p, 0, 5) || !in(what, 0, 7)) {
                return BAD;
            }
            Laid it = now.probes[p];
            if (what == 0) {
                return List.of("ON", "OFF", "DYING", "GONE").indexOf(it.state);
            }
            return !isProbe(p) ? NO : new int[] {it.kind, it.cell, it.hits, it.filtered, it.missed, now.holds(p),
                it.filter.length()}[what - 1];
        }

        int asked(int acc) {
            if (!in(acc, 0, 999)) {
                return BAD;
            }
            Integer value = value(text, acc, now.memory);
            return value == null ? NO : value;
        }

        /** On a world that has never seen a PROBE. */
        int ever(int c, int n, int what) {
            if (!in(c, 0, 1) || !in(n, 0, 60) || !in(what, 0, 4)) {
                return BAD;
            }
            World apart = now.twin();
            for (int p = 0; p < 6; p++) {
                apart.probes[p] = new Laid();
            }
            for (int[] one : apart.runners[c].returns) {
                one[1] = -1;
            }
            for (int i = 0; i < n && !apart.runners[c].halted; i++) {
                go(apart, c);
            }
            return what == 4 ? Arrays.stream(apart.memory).sum() : facts(apart.runners[c])[what];
        }

        int count(int what) {
            int held = 0;
            for (int p = 0; p < 6; p++) {
                held += now.holds(p);
            }
            int[] all = {code.length(), beginnings(code).size(), now.how("ON"), now.how("DYING"), held, past.size(),
                text.length()};
            return in(what, 0, 6) ? all[what] : BAD;
        }
    }
}
