/** Promises 1 to 22, one method each: ordinary inputs, the edges that the document names, wrong inputs. */
public final class PromisesTest {
    private static final int BAD = -1, NO = -2, FULL = -3, NONE = -4;
    private static final int ON = 0, OFF = 1, DYING = 2, GONE = 3;
    private static final int LOW = Integer.MIN_VALUE, HIGH = Integer.MAX_VALUE;

    private static String promise = "";
    private static int asked = 0;
    private static int wrong = 0;

    public static void main(String[] args) {
        newObject();
        write();
        wipe();
        fault();
        faultAtTheLimit();
        lay();
        probe();
        turn();
        remove();
        filter();
        filterAtHits();
        start();
        step();
        stepHalts();
        stepByReturning();
        stepMissed();
        poke();
        undo();
        undoEveryChange();
        code();
        memory();
        processor();
        returns();
        ring();
        look();
        asked();
        ever();
        count();
        System.out.println(asked + " answers looked at, " + wrong + " wrong");
        if (wrong != 0) {
            System.exit(1);
        }
    }

    private static void due(String call, int got, int want) {
        asked++;
        if (got != want) {
            wrong++;
            System.out.println(promise + ": " + call + " answered " + got + ", due is " + want);
        }
    }

    /** THE TEXT is these letters alone. */
    private static void say(Subject x, String letters) {
        x.wipe();
        for (int i = 0; i < letters.length(); i++) {
            x.write(letters.charAt(i));
        }
    }

    private static Subject laid(String letters) {
        Subject x = new Subject();
        say(x, letters);
        due("lay of " + letters, x.lay(), letters.length());
        return x;
    }

    private static void shows(Subject x, int c, int cell, int acc, int returns, int halted, int steps) {
        due("processor(" + c + ", 0)", x.processor(c, 0), cell);
        due("processor(" + c + ", 1)", x.processor(c, 1), acc);
        due("processor(" + c + ", 2)", x.processor(c, 2), returns);
        due("processor(" + c + ", 3)", x.processor(c, 3), halted);
        due("processor(" + c + ", 4)", x.processor(c, 4), steps);
    }

    private static void rings(Subject x, int c, int k, int probe, int acc, int step) {
        due("ring(" + c + ", " + k + ", 0)", x.ring(c, k, 0), probe);
        due("ring(" + c + ", " + k + ", 1)", x.ring(c, k, 1), acc);
        due("ring(" + c + ", " + k + ", 2)", x.ring(c, k, 2), step);
    }

    private static void counts(Subject x, int p, int hits, int filtered, int missed, int holds) {
        due("look(" + p + ", 3)", x.look(p, 3), hits);
        due("look(" + p + ", 4)", x.look(p, 4), filtered);
        due("look(" + p + ", 5)", x.look(p, 5), missed);
        due("look(" + p + ", 6)", x.look(p, 6), holds);
    }

    private static void isAsNew(Subject x) {
        for (int c = 0; c < 2; c++) {
            shows(x, c, 0, 0, 0, 0, 0);
            due("in the ring", x.processor(c, 5), 0);
            due("lost", x.processor(c, 6), 0);
            due("ring", x.ring(c, 0, 0), NONE);
            due("returns", x.returns(c, 0, 0), NONE);
        }
        for (int k = 0; k < 8; k++) {
            due("memory", x.memory(k), 0);
        }
        for (int p = 0; p < 6; p++) {
            due("look", x.look(p, 0), GONE);
        }
        for (int what = 2; what < 6; what++) {
            due("count(" + what + ")", x.count(what), 0);
        }
        due("undo", x.undo(), NO);
    }

    private static void newObject() {
        promise = "1 a new object";
        Subject x = new Subject();
        isAsNew(x);
        String first = "l0z13c14s0j00hl1p2s1l0dr";
        due("cells", x.count(0), first.length());
        due("instructions", x.count(1), 12);
        for (int i = 0; i < first.length(); i++) {
            due("code", x.code(i, 0), first.charAt(i));
            due("code", x.code(i, 1), first.charAt(i));
        }
        due("letters", x.count(6), 0);
        due("wipe", x.wipe(), 0);
        due("BAD", CodeProbes.BAD, -1);
        due("NO", CodeProbes.NO, -2);
        due("FULL", CodeProbes.FULL, -3);
        due("NONE", CodeProbes.NONE, -4);
    }

    private static void write() {
        promise = "2 write";
        Subject x = new Subject();
        due("write(31)", x.write(31), BAD);
        due("write(127)", x.write(127), BAD);
        due("write(32)", x.write(32), 1);
        due("write(126)", x.write(126), 2);
        due("write(LOW)", x.write(LOW), BAD);
        due("write(HIGH)", x.write(HIGH), BAD);
        due("write(65536 + 97)", x.write(65536 + 97), BAD);
        for (int i = 3; i <= 200; i++) {
            due("write", x.write('a'), i);
        }
        due("the 201st", x.write('a'), FULL);
        due("a wrong 201st", x.write(0), BAD);
        due("count(6)", x.count(6), 200);
        due("wipe", x.wipe(), 200);
        due("write", x.write('i'), 1);
        due("lay", x.lay(), 1);
        due("the text stays when laid", x.write('i'), 2);
        due("no change", x.count(5), 0);
    }

    private static void wipe() {
        promise = "3 wipe";
        Subject x = new Subject();
        due("wipe", x.wipe(), 0);
        say(x, "lkj");
        due("wipe", x.wipe(), 3);
        due("wipe", x.wipe(), 0);
        due("count(6)", x.count(6), 0);
        due("write", x.write('h'), 1);
        due("lay", x.lay(), 1);
        due("code", x.code(0, 1), 'h');
    }

    private static void faultOf(String letters, int want) {
        Subject x = new Subject();
        say(x, letters);
        due("fault of " + letters, x.fault(), want);
        due("lay of " + letters, x.lay(), want == NONE && !letters.isEmpty() ? letters.length() : NO);
        due("fault stays", x.fault(), want);
        due("the text stays", x.count(6), letters.length());
    }

    private static void fault() {
        promise = "4 fault";
        faultOf("", NONE);
        for (String one : new String[] {"i", "d", "r", "h", "l0", "l7", "s0", "s7", "p0", "p7", "j00", "z00", "c00"}) {
            faultOf(one, NONE);
            faultOf("i" + one + "r", NONE);
        }
        for (String one : new String[] {"a", " ", "!", "I", "0", "l", "s8", "p9", "la", "j", "j0", "z0x", "cx0", "j 0", "~"}) {
            faultOf(one, 0);
            faultOf("id" + one, 2);
        }
        faultOf("l8i", 0);
        faultOf("j0i", 0);
        faultOf("j01", 0);
        faultOf("ij01", NONE);
        faultOf("ij02", 1);
        faultOf("ij04", 1);
        faultOf("ij04h", NONE);
        faultOf("l0z01", 2);
        faultOf("l0c02", NONE);
        faultOf("j60", 0);
        faultOf("c99", 0);
        // One that is not so comes ahead of one that goes astray, wherever it stands.
        faultOf("j01ix", 4);
        for (String one : new String[] {"j0", "z0x", "cx0", "j0 ", "l8", "s", "x"}) {
            faultOf("j99" + one, 3);
        }
        faultOf("j00j01j05", 3);
    }

    private static void faultAtTheLimit() {
        String fifty7 = "i".repeat(57);
        faultOf(fifty7 + "iii", NONE);
        faultOf(fifty7 + "iiii", 60);
        faultOf(fifty7 + "j57", NONE);
        faultOf(fifty7 + "ij58", 58);
        faultOf(fifty7 + "iij59", 59);
        faultOf(fifty7 + "iil0", 59);
        faultOf(fifty7 + "il0", NONE);
        faultOf(fifty7 + "iiix", 60);
        faultOf("j01" + fifty7 + "i", 60);
        faultOf("j01" + fifty7, 0);
        faultOf("i".repeat(200), 60);
    }

    private static void lay() {
        promise = "5 lay";
        Subject x = new Subject();
        due("lay of nothing", x.lay(), NO);
        x.poke(0, 2);
        x.poke(2, 5);
        due("probe", x.probe(0, 16), 0);
        due("probe", x.probe(1, 14), 1);
        due("step", x.step(0, 60), 25);
        due("step", x.step(1, 60), 3);
        due("start", x.start(1, 14, 4), 0);
        due("probe", x.probe(0, 0), 2);
        for (int i = 0; i < 5; i++) {
            x.start(0, 0, 0);
            x.poke(0, i + 1);
            x.step(0, 3);
        }
        due("a return", x.processor(0, 2), 1);
        due("lost", x.processor(0, 6) > 0 ? 1 : 0, 1);
        say(x, "ij02");
        due("lay of a fault", x.lay(), NO);
        due("nothing changes then", x.count(5), 4);
        due("nothing changes then", x.count(0), 24);
        due("nothing changes then", x.look(1, 0), ON);
        say(x, "ihl3");
        due("lay", x.lay(), 4);
        due("cells", x.count(0), 4);
        due("instructions", x.count(1), 3);
        due("code", x.code(2, 0), 'l');
        due("code", x.code(4, 0), BAD);
        due("the text stays", x.count(6), 4);
        isAsNew(x);
        due("step", x.step(0, 60), 2);
        due("HALTED", x.processor(0, 3), 1);
        due("lay again", x.lay(), 4);
        isAsNew(x);
        due("all probes can be had", x.probe(0, 0), 0);
        counts(x, 0, 0, 0, 0, 0);

        // LAID while a RETURN is HELD, and while one that holds is DYING.
        x = laid("c03ir");
        due("probe", x.probe(1, 3), 0);
        due("step", x.step(0, 2), 2);
        due("step", x.step(1, 2), 2);
        due("held", x.count(4), 2);
        due("lay", x.lay(), 5);
        isAsNew(x);
        due("probe", x.probe(1, 3), 0);
        counts(x, 0, 0, 0, 0, 0);
        due("step", x.step(0, 2), 2);
        due("dying", x.remove(0), 0);
        due("lay", x.lay(), 5);
        isAsNew(x);
    }

    private static void probe() {
        promise = "6 probe";
        Subject x = laid("iiiiiiij00l3");
        due("kind", x.probe(-1, 0), BAD);
        due("kind", x.probe(2, 0), BAD);
        due("kind", x.probe(LOW, 0), BAD);
        due("cell", x.probe(0, -1), BAD);
        due("cell", x.probe(0, 12), BAD);
        due("cell", x.probe(1, HIGH), BAD);
        due("BAD ahead of NO", x.probe(2, 8), BAD);
        due("none begins", x.probe(0, 8), NO);
        due("none begins", x.probe(1, 9), NO);
        due("none begins", x.probe(1, 11), NO);
        due("nothing changed", x.count(5), 0);
        for (int p = 0; p < 5; p++) {
            due("probe", x.probe(p % 2, p), p);
            due("is", x.look(p, 0), ON);
            due("kind", x.look(p, 1), p % 2);
            due("cell", x.look(p, 2), p);
        }
        due("one lies there", x.probe(0, 0), NO);
        due("one lies there, OFF", x.turn(4, 0), 4);
        due("one lies there, OFF", x.probe(0, 4), NO);
        due("the sixth", x.probe(0, 10), 5);
        due("full", x.probe(0, 5), FULL);
        due("NO ahead of FULL", x.probe(0, 8), NO);
        due("NO ahead of FULL", x.probe(0, 1), NO);
        due("BAD ahead of FULL", x.probe(0, 12), BAD);
        due("nothing changes then", x.count(2), 5);
        due("gone", x.remove(2), 1);
        due("gone", x.remove(1), 1);
        due("the lowest that is gone", x.probe(1, 7), 1);
        due("the lowest that is gone", x.probe(0, 1), 2);
        due("full", x.probe(0, 2), FULL);

        x = laid("c03ir");
        due("probe", x.probe(1, 3), 0);
        due("probe", x.probe(0, 0), 1);
        say(x, "0");
        due("filter", x.filter(0), 1);
        x.step(0, 2);
        due("dying", x.remove(0), 0);
        due("a dying one lies there", x.probe(0, 3), NO);
        due("another", x.probe(0, 4), 2);
        x.step(0, 60);
        due("gone", x.look(0, 0), GONE);
        due("laid anew", x.probe(0, 3), 0);
        counts(x, 0, 0, 0, 0, 0);
        due("without a filter", x.look(0, 7), 0);
        due("kind", x.look(0, 1), 0);
    }

    private static void turn() {
        promise = "7 turn";
        Subject x = laid("c03ir");
        due("gone", x.turn(0, 0), BAD);
        due("probe", x.probe(1, 3), 0);
        due("probe", x.probe(0, 0), 1);
        due("p", x.turn(-1, 0), BAD);
        due("p", x.turn(6, 0), BAD);
        due("p", x.turn(2, 0), BAD);
        due("p", x.turn(HIGH, 0), BAD);
        due("is", x.turn(0, -1), BAD);
        due("is", x.turn(0, 2), BAD);
        due("it is so", x.turn(0, 1), NO);
        due("off", x.turn(0, 0), 1);
        due("it is so", x.turn(0, 0), NO);
        due("shows", x.code(3, 0), 'i');
        due("off", x.turn(1, 0), 0);
        due("steps by none", x.step(0, 2), 2);
        due("not hit", x.look(1, 3), 0);
        due("not held", x.look(0, 6), 0);
        due("on", x.turn(1, 1), 1);
        due("on", x.turn(0, 1), 2);
        due("shows", x.code(3, 0), '!');
        due("start", x.start(0, 0, 0), 0);
        due("held", x.step(0, 2), 2);
        due("off while it holds", x.turn(0, 0), 1);
        due("it holds", x.look(0, 6), 1);
        due("dying", x.remove(0), 0);
        due("dying", x.turn(0, 0), NO);
        due("dying", x.turn(0, 1), NO);
        due("BAD ahead of NO", x.turn(0, 2), BAD);
        due("still dying", x.look(0, 0), DYING);
    }

    private static void remove() {
        promise = "8 remove";
        Subject x = laid("c04hc07ir");
        due("gone", x.remove(0), BAD);
        due("p", x.remove(-1), BAD);
        due("p", x.remove(6), BAD);
        due("p", x.remove(LOW), BAD);
        due("probe", x.probe(0, 0), 0);
        due("remove one that is on", x.remove(0), 1);
        due("gone", x.look(0, 0), GONE);
        due("shows", x.code(0, 0), 'c');
        due("gone already", x.remove(0), BAD);
        due("probe", x.probe(1, 4), 0);
        due("turn", x.turn(0, 0), 0);
        due("remove one that is off", x.remove(0), 1);
        due("probe", x.probe(1, 7), 0);
        due("probe", x.probe(1, 4), 1);
        due("step", x.step(0, 3), 3);
        due("step", x.step(1, 3), 3);
        due("holds", x.look(0, 6), 2);
        due("remove", x.remove(0), 0);
        due("dying", x.look(0, 0), DYING);
        due("off at once", x.code(7, 0), 'i');
        due("dying already", x.remove(0), NO);
        due("off", x.turn(1, 0), 0);
        due("remove one that is off, but holds", x.remove(1), 0);
        due("it shows as held all the same", x.returns(0, 1, 0), 99);
        due("step", x.step(0, 1), 1);
        due("one is inside", x.look(0, 0), DYING);
        due("dying already", x.remove(0), NO);
        due("start", x.start(0, 7, 0), 1);
        due("nobody comes by a dying one", x.step(0, 1), 1);
        counts(x, 0, 0, 0, 0, 1);
        due("step", x.step(1, 1), 1);
        due("nobody is inside", x.look(0, 0), GONE);
        due("gone already", x.remove(0), BAD);
        due("changes", x.count(5), 4);
        due("undo", x.undo(), 3);
        due("dying again", x.look(0, 0), DYING);
    }

    private static void filter() {
        promise = "9 filter";
        Subject x = laid("c04hir");
        due("gone", x.filter(0), BAD);
        due("p", x.filter(-1), BAD);
        due("p", x.filter(6), BAD);
        due("p", x.filter(HIGH), BAD);
        due("probe", x.probe(1, 4), 0);
        say(x, "a5");
        due("not sound", x.filter(0), NO);
        due("BAD ahead of NO", x.filter(1), BAD);
        due("nothing changed", x.count(5), 1);
        say(x, "+");
        due("not sound", x.filter(0), NO);
        say(x, "m7a<");
        due("sound", x.filter(0), 4);
        due("the text stays", x.count(6), 4);
        due("letters", x.look(0, 7), 4);
        say(x, "a!!");
        due("letters stay", x.look(0, 7), 4);
        due("another", x.filter(0), 3);
        due("the same again is a change", x.filter(0), 3);
        due("changes", x.count(5), 4);
        x.wipe();
        due("none", x.filter(0), 0);
        due("letters", x.look(0, 7), 0);
        say(x, "0" + "!".repeat(199));
        due("the longest", x.filter(0), 200);
        due("letters", x.look(0, 7), 200);
        x.step(0, 2);
        due("dying", x.remove(0), 0);
        say(x, "7");
        due("a dying one is given it, too", x.filter(0), 1);
        due("letters", x.look(0, 7), 1);
    }

    private static void filterAtHits() {
        Subject x = laid("is0j00");
        due("probe", x.probe(0, 1), 0);
        say(x, "a3<!");
        due("filter", x.filter(0), 4);
        due("step", x.step(0, 12), 12);
        counts(x, 0, 4, 2, 0, 0);
        due("in the ring", x.processor(0, 5), 2);
        rings(x, 0, 0, 0, 3, 8);
        rings(x, 0, 1, 0, 4, 11);
        // MEMORY as it is ahead of the INSTRUCTION: s0 has not been done at the HIT.
        say(x, "a1-m0=");
        due("filter", x.filter(0), 6);
        due("step", x.step(0, 3), 3);
        counts(x, 0, 5, 2, 0, 0);
        say(x, "am0=");
        due("filter", x.filter(0), 4);
        due("step", x.step(0, 3), 3);
        counts(x, 0, 6, 3, 0, 0);
        // What a FILTER is need not be 1.
        say(x, "7");
        due("filter", x.filter(0), 1);
        due("step", x.step(0, 3), 3);
        counts(x, 0, 7, 3, 0, 0);
        rings(x, 0, 3, 0, 7, 20);
        x.wipe();
        due("filter", x.filter(0), 0);
        due("step", x.step(1, 3), 3);
        counts(x, 0, 8, 3, 0, 0);
        rings(x, 1, 0, 0, 1, 2);
    }

    private static void start() {
        promise = "10 start";
        Subject x = laid("c03c06hir");
        due("c", x.start(-1, 0, 0), BAD);
        due("c", x.start(2, 0, 0), BAD);
        due("cell", x.start(0, -1, 0), BAD);
        due("cell", x.start(0, 9, 0), BAD);
        due("acc", x.start(0, 0, -1), BAD);
        due("acc", x.start(0, 0, 1000), BAD);
        due("BAD ahead of NO", x.start(0, 1, 1000), BAD);
        due("none begins", x.start(0, 1, 0), NO);
        due("none begins", x.start(1, 5, 0), NO);
        due("nothing changed", x.count(5), 0);
        due("start", x.start(1, 7, 999), 0);
        shows(x, 1, 7, 999, 0, 0, 0);
        shows(x, 0, 0, 0, 0, 0, 0);
        due("a change", x.count(5), 1);
        due("step", x.step(1, 60), 2);
        shows(x, 1, 8, 0, 0, 1, 2);

        due("probe", x.probe(1, 3), 0);
        due("probe", x.probe(1, 6), 1);
        due("step", x.step(0, 3), 3);
        shows(x, 0, 6, 0, 2, 1, 3);
        due("held in all", x.count(4), 2);
        due("dying", x.remove(0), 0);
        due("start", x.start(0, 7, 4), 2);
        shows(x, 0, 7, 4, 0, 0, 3);
        due("held in all", x.count(4), 0);
        due("one that is dying is gone by it", x.look(0, 0), GONE);
        due("one that is on stays", x.look(1, 0), ON);
        counts(x, 1, 0, 0, 0, 0);
        due("nothing is hit", x.processor(0, 5), 0);
        due("undo", x.undo(), 3);
        shows(x, 0, 6, 0, 2, 1, 3);
        due("dying again", x.look(0, 0), DYING);
        due("held in all", x.count(4), 2);

        // The STEPS, the RING and what is LOST of a PROCESSOR stay.
        x = laid("j00");
        due("probe", x.probe(0, 0), 0);
        due("step", x.step(0, 6), 6);
        due("start", x.start(0, 0, 1), 0);
        due("steps", x.processor(0, 4), 6);
        due("in the ring", x.processor(0, 5), 4);
        due("lost", x.processor(0, 6), 2);

        // Held by one PROBE for both PROCESSORS: it is DYING until both are out.
        x = laid("c03ir");
        due("probe", x.probe(1, 3), 0);
        due("step", x.step(0, 2), 2);
        due("step", x.step(1, 2), 2);
        due("holds", x.look(0, 6), 2);
        due("dying", x.remove(0), 0);
        due("start", x.start(0, 0, 0), 1);
        due("dying", x.look(0, 0), DYING);
        due("holds", x.look(0, 6), 1);
        due("start", x.start(1, 0, 0), 1);
        due("gone", x.look(0, 0), GONE);
    }

    private static void step() {
        promise = "11 step";
        Subject x = laid("l1i");
        due("c", x.step(-1, 1), BAD);
        due("c", x.step(2, 1), BAD);
        due("n", x.step(0, 0), BAD);
        due("n", x.step(0, -1), BAD);
        due("n", x.step(0, 61), BAD);
        due("n", x.step(0, HIGH), BAD);
        due("nothing changed", x.count(5), 0);
        x.poke(1, 998);
        due("l1", x.step(0, 1), 1);
        shows(x, 0, 2, 998, 0, 0, 1);
        due("i", x.step(0, 1), 1);
        // It arrived where none begins, but has not tried to go on there.
        shows(x, 0, 3, 999, 0, 0, 2);
        due("changes", x.count(5), 3);
        due("none begins", x.step(0, 1), 0);
        shows(x, 0, 3, 999, 0, 1, 2);
        due("a change, also if 0", x.count(5), 4);
        due("halted", x.step(0, 1), NO);
        due("BAD ahead of NO", x.step(0, 61), BAD);
        due("the other one", x.step(1, 60), 2);
        shows(x, 1, 3, 999, 0, 1, 2);
        due("undo", x.undo(), 3);
        due("undo of a step of 0", x.undo(), 2);
        shows(x, 0, 3, 999, 0, 0, 2);

        x = laid("iz06ddz11s7p7h");
        due("i", x.step(0, 1), 1);
        due("z that goes not", x.step(0, 1), 1);
        shows(x, 0, 4, 1, 0, 0, 2);
        due("dd", x.step(0, 2), 2);
        shows(x, 0, 6, 999, 0, 0, 4);
        due("z", x.step(0, 1), 1);
        due("s7", x.step(0, 1), 1);
        due("memory", x.memory(7), 999);
        due("p7", x.step(0, 1), 1);
        shows(x, 0, 13, 998, 0, 0, 7);
        due("start", x.start(1, 0, 999), 0);
        due("i over 999", x.step(1, 2), 2);
        shows(x, 1, 6, 0, 0, 0, 2);
        due("sixty at most", laid("j00").step(0, 60), 60);
        due("j", laid("ij00").step(1, 59), 59);
    }

    private static void stepHalts() {
        Subject x = laid("c00");
        due("probe", x.probe(0, 0), 0);
        due("six calls, and one that halts", x.step(0, 60), 7);
        shows(x, 0, 0, 0, 6, 1, 7);
        due("it came by", x.look(0, 3), 7);
        due("return", x.returns(0, 5, 1), 3);
        due("return", x.returns(0, 6, 1), NONE);
        rings(x, 0, 3, 0, 0, 7);

        x = laid("ir");
        due("probe", x.probe(1, 1), 0);
        due("r without any", x.step(0, 60), 2);
        shows(x, 0, 1, 1, 0, 1, 2);
        counts(x, 0, 0, 0, 1, 0);

        x = laid("ih");
        due("probe", x.probe(0, 1), 0);
        due("h", x.step(1, 2), 2);
        shows(x, 1, 1, 1, 0, 1, 2);
        due("it came by", x.look(0, 3), 1);

        // All six RETURNS are given back, the top one first.
        x = laid("c04hc08rc12rc16rc20rc24rr");
        due("six calls", x.step(0, 6), 6);
        shows(x, 0, 24, 0, 6, 0, 6);
        for (int k = 5; k >= 0; k--) {
            int back = x.returns(0, k, 1);
            due("return", back, k == 0 ? 3 : 3 + 4 * k);
            due("r", x.step(0, 1), 1);
            shows(x, 0, back, 0, k, 0, 12 - k);
        }
        due("h", x.step(0, 60), 1);

        // The last c puts the CELL behind the code: r goes there, and there it HALTS.
        x = laid("j04rc03");
        due("step", x.step(0, 3), 3);
        shows(x, 0, 7, 0, 0, 0, 3);
        due("step", x.step(0, 3), 0);
        shows(x, 0, 7, 0, 0, 1, 3);
    }

    private static void stepByReturning() {
        Subject x = laid("c04hdr");
        due("probe", x.probe(1, 4), 0);
        due("step", x.step(0, 2), 2);
        counts(x, 0, 0, 0, 0, 1);
        due("shows", x.returns(0, 0, 0), 99);
        due("is", x.returns(0, 0, 1), 3);
        due("r", x.step(0, 1), 1);
        shows(x, 0, 3, 999, 0, 0, 3);
        counts(x, 0, 1, 0, 0, 0);
        rings(x, 0, 0, 0, 999, 3);
        // OFF as it returns: held no more, but not hit.
        due("step", x.step(1, 2), 2);
        due("off", x.turn(0, 0), 0);
        due("r", x.step(1, 1), 1);
        counts(x, 0, 1, 0, 0, 0);
        due("off it stays", x.look(0, 0), OFF);
        due("in the ring", x.processor(1, 5), 0);
        due("on", x.turn(0, 1), 1);
        // DYING as it returns: gone, not hit.
        due("start", x.start(1, 0, 0), 0);
        due("step", x.step(1, 2), 2);
        due("dying", x.remove(0), 0);
        due("r", x.step(1, 1), 1);
        due("gone", x.look(0, 0), GONE);
        due("in the ring", x.processor(1, 5), 0);

        // On the r itself: held and given back in one STEP.
        x = laid("c03r");
        due("probe", x.probe(1, 3), 0);
        due("step", x.step(0, 2), 2);
        shows(x, 0, 3, 0, 0, 0, 2);
        counts(x, 0, 1, 0, 0, 0);
        rings(x, 0, 0, 0, 0, 2);
        // Now without RETURNS: missed, then the r HALTS.
        due("step", x.step(0, 1), 1);
        shows(x, 0, 3, 0, 0, 1, 3);
        counts(x, 0, 1, 0, 1, 0);

        // The FILTER of a RETURNING one is asked behind the r.
        x = laid("c04his0r");
        due("probe", x.probe(1, 4), 0);
        say(x, "am0=a&");
        due("filter", x.filter(0), 6);
        due("step", x.step(0, 60), 5);
        counts(x, 0, 1, 0, 0, 0);
        say(x, "m0a=!");
        due("filter", x.filter(0), 5);
        due("step", x.step(1, 60), 5);
        counts(x, 0, 2, 1, 0, 0);
        due("in the ring", x.processor(1, 5), 0);
    }

    private static void stepMissed() {
        Subject x = laid("c00");
        due("probe", x.probe(1, 0), 0);
        due("without returns", x.step(0, 1), 1);
        counts(x, 0, 0, 0, 1, 0);
        due("three are held", x.step(0, 3), 3);
        counts(x, 0, 0, 0, 1, 3);
        due("no more than three", x.step(0, 1), 1);
        counts(x, 0, 0, 0, 2, 3);
        due("shows", x.returns(0, 2, 0), 99);
        due("shows", x.returns(0, 3, 0), 3);
        due("nor of the other one", x.step(1, 2), 2);
        counts(x, 0, 0, 0, 4, 3);
        due("held in all", x.count(4), 3);
        due("start", x.start(0, 0, 0), 3);
        due("again", x.step(1, 1), 1);
        counts(x, 0, 0, 0, 4, 1);

        // The top one is HELD already, by another.
        x = laid("c03idr");
        due("probe", x.probe(1, 3), 0);
        due("probe", x.probe(1, 4), 1);
        due("step", x.step(0, 3), 3);
        counts(x, 0, 0, 0, 0, 1);
        counts(x, 1, 0, 0, 1, 0);
        due("step", x.step(0, 1), 1);
        counts(x, 0, 1, 0, 0, 0);
        counts(x, 1, 0, 0, 1, 0);
    }

    private static void poke() {
        promise = "12 poke";
        Subject x = new Subject();
        due("k", x.poke(-1, 1), BAD);
        due("k", x.poke(8, 1), BAD);
        due("v", x.poke(0, -1), BAD);
        due("v", x.poke(0, 1000), BAD);
        due("k, v", x.poke(LOW, HIGH), BAD);
        due("it is so", x.poke(0, 0), NO);
        due("nothing changed", x.count(5), 0);
        due("poke", x.poke(0, 999), 0);
        due("poke", x.poke(7, 1), 0);
        due("poke", x.poke(0, 5), 999);
        due("it is so", x.poke(0, 5), NO);
        due("memory", x.memory(0), 5);
        due("memory", x.memory(7), 1);
        due("changes", x.count(5), 3);
        due("undo", x.undo(), 2);
        due("memory", x.memory(0), 999);
    }

    private static void undo() {
        promise = "13 undo";
        Subject x = new Subject();
        due("none", x.undo(), NO);
        for (int v = 1; v <= 6; v++) {
            due("poke", x.poke(3, v), v - 1);
            due("changes", x.count(5), Math.min(v, 4));
        }
        due("undo", x.undo(), 3);
        due("memory", x.memory(3), 5);
        due("undo", x.undo(), 2);
        due("poke", x.poke(3, 9), 4);
        due("changes", x.count(5), 3);
        due("undo", x.undo(), 2);
        due("undo", x.undo(), 1);
        due("undo", x.undo(), 0);
        due("memory", x.memory(3), 2);
        due("none", x.undo(), NO);
        due("memory", x.memory(3), 2);
        say(x, "h");
        due("poke", x.poke(3, 8), 2);
        due("the text is no change", x.wipe(), 1);
        due("undo", x.undo(), 0);
        due("the text stays", x.count(6), 0);
        due("poke", x.poke(3, 8), 2);
        say(x, "h");
        due("lay", x.lay(), 1);
        due("behind LAID none", x.undo(), NO);
    }

    private static void undoEveryChange() {
        Subject x = laid("c04his0j07");
        due("probe laid", x.probe(0, 7), 0);
        due("undo", x.undo(), 0);
        due("gone", x.look(0, 0), GONE);
        due("probe", x.probe(0, 7), 0);
        due("off", x.turn(0, 0), 0);
        due("undo", x.undo(), 1);
        due("on", x.look(0, 0), ON);
        due("off", x.turn(0, 0), 0);
        due("on", x.turn(0, 1), 1);
        due("undo", x.undo(), 2);
        due("off", x.look(0, 0), OFF);
        due("on", x.turn(0, 1), 1);
        due("taken away", x.remove(0), 1);
        due("undo", x.undo(), 3);
        due("on", x.look(0, 0), ON);
        due("cell", x.look(0, 2), 7);
        say(x, "m0");
        due("filter", x.filter(0), 2);
        x.wipe();
        due("filter", x.filter(0), 0);
        due("undo", x.undo(), 3);
        due("the filter again", x.look(0, 7), 2);
        due("step", x.step(0, 20), 20);
        due("hits", x.look(0, 3), 17);
        due("lost", x.processor(0, 6), 13);
        due("step", x.step(1, 20), 20);
        due("undo", x.undo(), 3);
        shows(x, 1, 0, 0, 0, 0, 0);
        due("in the ring", x.processor(1, 5), 0);
        due("lost", x.processor(1, 6), 0);
        due("undo", x.undo(), 2);
        shows(x, 0, 0, 0, 0, 0, 0);
        due("memory", x.memory(0), 0);
        counts(x, 0, 0, 0, 0, 0);
        due("step", x.step(0, 1), 1);
        due("start", x.start(0, 7, 3), 0);
        due("undo", x.undo(), 3);
        shows(x, 0, 4, 0, 1, 0, 1);
        due("return", x.returns(0, 0, 1), 3);

        // What is in the RING comes back, too, and so does what was HELD and missed.
        x = laid("ic05hir");
        due("probe", x.probe(0, 0), 0);
        due("probe", x.probe(1, 5), 1);
        due("step", x.step(0, 3), 3);
        due("step", x.step(0, 60), 2);
        counts(x, 1, 1, 0, 0, 0);
        due("undo", x.undo(), 3);
        counts(x, 1, 0, 0, 0, 1);
        due("in the ring", x.processor(0, 5), 1);
        due("shows", x.returns(0, 0, 0), 99);
        shows(x, 0, 6, 2, 1, 0, 3);
        due("step", x.step(0, 1), 1);
        rings(x, 0, 1, 1, 2, 4);
    }

    private static void code() {
        promise = "14 code";
        Subject x = new Subject();
        due("cell", x.code(-1, 0), BAD);
        due("cell", x.code(24, 1), BAD);
        due("cell", x.code(HIGH, 1), BAD);
        due("real", x.code(0, -1), BAD);
        due("real", x.code(0, 2), BAD);
        due("probe", x.probe(1, 2), 0);
        due("shows", x.code(2, 0), '!');
        due("has", x.code(2, 1), 'z');
        due("the rest of it", x.code(3, 0), '1');
        due("others", x.code(0, 0), 'l');
        due("off", x.turn(0, 0), 0);
        due("shows", x.code(2, 0), 'z');
        due("on", x.turn(0, 1), 1);
        due("shows", x.code(2, 0), '!');
        due("gone", x.remove(0), 1);
        due("shows", x.code(2, 0), 'z');
        due("the last", x.code(23, 0), 'r');
    }

    private static void memory() {
        promise = "15 memory";
        Subject x = laid("is0is7is3");
        due("k", x.memory(-1), BAD);
        due("k", x.memory(8), BAD);
        due("k", x.memory(LOW), BAD);
        due("step", x.step(0, 60), 6);
        due("memory", x.memory(0), 1);
        due("memory", x.memory(7), 2);
        due("memory", x.memory(3), 3);
        due("memory", x.memory(1), 0);
        due("one for both", x.step(1, 1), 1);
        due("one for both", x.step(1, 1), 1);
        due("memory", x.memory(0), 1);
    }

    private static void processor() {
        promise = "16 processor";
        Subject x = laid("j00");
        due("c", x.processor(-1, 0), BAD);
        due("c", x.processor(2, 0), BAD);
        due("what", x.processor(0, -1), BAD);
        due("what", x.processor(0, 7), BAD);
        due("what", x.processor(1, HIGH), BAD);
        due("probe", x.probe(0, 0), 0);
        due("step", x.step(1, 4), 4);
        due("in the ring", x.processor(1, 5), 4);
        due("lost", x.processor(1, 6), 0);
        due("step", x.step(1, 3), 3);
        due("in the ring", x.processor(1, 5), 4);
        due("lost", x.processor(1, 6), 3);
        due("steps", x.processor(1, 4), 7);
        due("of the other", x.processor(0, 5), 0);
        due("of the other", x.processor(0, 4), 0);
    }

    private static void returns() {
        promise = "17 returns";
        Subject x = laid("ic04c07hr");
        due("none", x.returns(0, 0, 0), NONE);
        due("c", x.returns(2, 0, 0), BAD);
        due("c", x.returns(-1, 0, 0), BAD);
        due("k", x.returns(0, -1, 0), BAD);
        due("k", x.returns(0, LOW, 0), BAD);
        due("real", x.returns(0, 0, 2), BAD);
        due("real", x.returns(0, 0, -1), BAD);
        due("BAD ahead of NONE", x.returns(0, 9, 2), BAD);
        due("many", x.returns(0, HIGH, 1), NONE);
        due("probe", x.probe(1, 7), 0);
        due("step", x.step(0, 4), 4);
        due("the lowest", x.returns(0, 0, 0), 4);
        due("the lowest", x.returns(0, 0, 1), 4);
        due("the top", x.returns(0, 1, 0), 99);
        due("the top", x.returns(0, 1, 1), 7);
        due("no more", x.returns(0, 2, 0), NONE);
        due("of the other", x.returns(1, 0, 0), NONE);
    }

    private static void ring() {
        promise = "18 ring";
        Subject x = laid("iij00");
        due("c", x.ring(-1, 0, 0), BAD);
        due("c", x.ring(2, 0, 0), BAD);
        due("k", x.ring(0, -1, 0), BAD);
        due("what", x.ring(0, 0, -1), BAD);
        due("what", x.ring(0, 0, 3), BAD);
        due("BAD ahead of NONE", x.ring(0, 9, 3), BAD);
        due("none", x.ring(0, 0, 0), NONE);
        due("many", x.ring(0, HIGH, 2), NONE);
        due("probe", x.probe(0, 1), 0);
        due("probe", x.probe(0, 0), 1);
        due("step", x.step(0, 2), 2);
        rings(x, 0, 0, 1, 0, 1);
        rings(x, 0, 1, 0, 1, 2);
        due("no more", x.ring(0, 2, 0), NONE);
        due("step", x.step(0, 6), 6);
        rings(x, 0, 0, 1, 2, 4);
        rings(x, 0, 1, 0, 3, 5);
        rings(x, 0, 2, 1, 4, 7);
        rings(x, 0, 3, 0, 5, 8);
        due("four at most", x.ring(0, 4, 0), NONE);
        due("lost", x.processor(0, 6), 2);
        due("of the other", x.ring(1, 0, 0), NONE);
        due("gone", x.remove(0), 1);
        due("what is recorded stays", x.ring(0, 3, 0), 0);
        due("step", x.step(0, 3), 3);
        rings(x, 0, 2, 0, 5, 8);
        rings(x, 0, 3, 1, 6, 10);
        due("step", x.step(0, 3), 3);
        rings(x, 0, 0, 1, 4, 7);
        rings(x, 0, 1, 0, 5, 8);
        rings(x, 0, 2, 1, 6, 10);
        rings(x, 0, 3, 1, 8, 13);
    }

    private static void look() {
        promise = "19 look";
        Subject x = laid("c03ir");
        due("p", x.look(-1, 0), BAD);
        due("p", x.look(6, 0), BAD);
        due("p", x.look(HIGH, 0), BAD);
        due("what", x.look(0, -1), BAD);
        due("BAD ahead of NO", x.look(0, 8), BAD);
        due("gone", x.look(5, 0), GONE);
        for (int what = 1; what <= 7; what++) {
            due("gone", x.look(0, what), NO);
        }
        due("probe", x.probe(0, 4), 0);
        due("probe", x.probe(1, 3), 1);
        due("on", x.look(1, 0), ON);
        due("kind", x.look(0, 1), 0);
        due("kind", x.look(1, 1), 1);
        due("cell", x.look(0, 2), 4);
        due("cell", x.look(1, 2), 3);
        say(x, "a2=");
        due("filter", x.filter(0), 3);
        due("letters", x.look(0, 7), 3);
        due("letters", x.look(1, 7), 0);
        due("step", x.step(0, 60), 5);
        counts(x, 0, 2, 1, 0, 0);
        counts(x, 1, 1, 0, 1, 0);
        due("step", x.step(1, 2), 2);
        due("dying", x.remove(1), 0);
        due("dying", x.look(1, 0), DYING);
        due("kind of a dying one", x.look(1, 1), 1);
        due("cell of a dying one", x.look(1, 2), 3);
        counts(x, 1, 1, 0, 1, 1);
        due("off", x.turn(0, 0), 0);
        due("off", x.look(0, 0), OFF);
    }

    private static void askedIs(Subject x, String letters, int acc, int want) {
        say(x, letters);
        due("asked(" + acc + ") of " + letters, x.asked(acc), want);
    }

    private static void asked() {
        promise = "20 asked";
        Subject x = new Subject();
        due("empty", x.asked(0), NO);
        due("acc", x.asked(-1), BAD);
        due("acc", x.asked(1000), BAD);
        due("acc", x.asked(HIGH), BAD);
        x.poke(0, 999);
        x.poke(7, 42);
        askedIs(x, "a", 0, 0);
        askedIs(x, "a", 999, 999);
        askedIs(x, "m0", 0, 999);
        askedIs(x, "m7", 0, 42);
        askedIs(x, "m3", 5, 0);
        askedIs(x, "m8", 0, NO);
        askedIs(x, "m", 0, NO);
        askedIs(x, "1m", 0, NO);
        askedIs(x, "ma", 0, NO);
        askedIs(x, "0", 7, 0);
        askedIs(x, "9", 7, 9);
        askedIs(x, "12", 7, NO);
        askedIs(x, "m0a+", 1, 0);
        askedIs(x, "m0a+", 999, 998);
        askedIs(x, "2a-", 3, 999);
        askedIs(x, "a2-", 3, 1);
        askedIs(x, "m0a*", 999, 1);
        askedIs(x, "a5<", 4, 1);
        askedIs(x, "a5<", 5, 0);
        askedIs(x, "5a<", 6, 1);
        askedIs(x, "a5=", 5, 1);
        askedIs(x, "a5=", 6, 0);
        askedIs(x, "a5&", 0, 0);
        askedIs(x, "5a&", 0, 0);
        askedIs(x, "a5&", 3, 1);
        askedIs(x, "a0|", 0, 0);
        askedIs(x, "0a|", 7, 1);
        askedIs(x, "a0|", 7, 1);
        askedIs(x, "a5|", 7, 1);
        askedIs(x, "a!", 0, 1);
        askedIs(x, "a!", 2, 0);
        askedIs(x, "a!!", 2, 1);
        askedIs(x, "!", 2, NO);
        askedIs(x, "!1", 2, NO);
        askedIs(x, "+1", 2, NO);
        askedIs(x, "1+1+", 2, NO);
        askedIs(x, "11x+", 2, NO);
        askedIs(x, "12345+++", 2, NO);
        askedIs(x, "1+", 2, NO);
        askedIs(x, "1!+", 2, NO);
        askedIs(x, "+11", 2, NO);
        askedIs(x, "1+1", 2, NO);
        due("no change", x.count(5), 2);
        askedAtTheLimits();
    }

    private static void askedAtTheLimits() {
        Subject x = new Subject();
        x.poke(7, 42);
        for (String sign : new String[] {"+", "-", "*", "<", "=", "&", "|"}) {
            askedIs(x, sign, 0, NO);
            askedIs(x, "1" + sign, 0, NO);
        }
        askedIs(x, "1234+++", 0, 10);
        askedIs(x, "12345++++", 0, NO);
        askedIs(x, "1234m7++++", 0, NO);
        askedIs(x, "1234+a+++", 5, 15);
        askedIs(x, "85-2-", 0, 1);
        askedIs(x, "852--", 0, 5);
        askedIs(x, "a5>", 0, NO);
        askedIs(x, "a ", 0, NO);
        askedIs(x, "A", 0, NO);
        due("BAD ahead of NO", x.asked(1000), BAD);
        askedIs(x, "0" + "!".repeat(199), 0, 1);
        due("no change", x.count(5), 1);
    }

    private static void ever() {
        promise = "21 ever";
        Subject x = laid("c04his0ir");
        due("c", x.ever(-1, 0, 0), BAD);
        due("c", x.ever(2, 0, 0), BAD);
        due("n", x.ever(0, -1, 0), BAD);
        due("n", x.ever(0, 61, 0), BAD);
        due("what", x.ever(0, 0, -1), BAD);
        due("what", x.ever(0, 0, 5), BAD);
        x.poke(0, 900);
        x.poke(1, 999);
        x.poke(7, 998);
        due("probe", x.probe(0, 5), 0);
        due("probe", x.probe(1, 4), 1);
        int[][] wants = {{0, 0, 0, 0, 2897}, {4, 0, 1, 0, 2897}, {5, 1, 1, 0, 2897}, {7, 1, 1, 0, 1998},
            {8, 2, 1, 0, 1998}, {3, 2, 0, 0, 1998}, {3, 2, 0, 1, 1998}, {3, 2, 0, 1, 1998}};
        for (int n = 0; n < wants.length; n++) {
            for (int what = 0; what < 5; what++) {
                due("ever(0, " + n + ", " + what + ")", x.ever(0, n, what), wants[n][what]);
            }
        }
        due("ever(0, 60, 3)", x.ever(0, 60, 3), 1);
        shows(x, 0, 0, 0, 0, 0, 0);
        due("no change", x.count(5), 4);
        due("memory stays", x.memory(0), 900);
        due("no hit", x.look(0, 3), 0);
        due("step", x.step(0, 2), 2);
        due("held, but goes on where it is", x.ever(0, 3, 0), 3);
        due("nothing is let go", x.look(1, 6), 1);
        due("step", x.step(0, 60), 4);
        due("halted", x.ever(0, 9, 0), 3);
        due("halted", x.ever(0, 0, 3), 1);
        due("of the other", x.ever(1, 0, 3), 0);

        x = laid("i");
        due("arrived", x.ever(0, 1, 3), 0);
        due("halts", x.ever(0, 2, 3), 1);
        due("where", x.ever(0, 2, 0), 1);
        x = laid("c00");
        due("returns", x.ever(1, 6, 2), 6);
        due("not yet", x.ever(1, 6, 3), 0);
        due("halts", x.ever(1, 7, 3), 1);
        due("sixty", laid("ij00").ever(0, 60, 1), 30);
    }

    private static void count() {
        promise = "22 count";
        Subject x = laid("c03il7r");
        due("what", x.count(-1), BAD);
        due("what", x.count(7), BAD);
        due("what", x.count(HIGH), BAD);
        due("cells", x.count(0), 7);
        due("instructions", x.count(1), 4);
        due("probe", x.probe(1, 3), 0);
        due("probe", x.probe(1, 4), 1);
        due("probe", x.probe(0, 0), 2);
        due("on", x.count(2), 3);
        due("off", x.turn(2, 0), 2);
        due("on", x.count(2), 2);
        due("step", x.step(0, 2), 2);
        due("step", x.step(1, 2), 2);
        due("held", x.count(4), 2);
        due("dying", x.count(3), 0);
        due("remove", x.remove(0), 0);
        due("dying", x.count(3), 1);
        due("on", x.count(2), 1);
        due("held", x.count(4), 2);
        due("changes", x.count(5), 4);
        due("letters", x.count(6), 7);
        due("step", x.step(0, 60), 5);
        due("held", x.count(4), 1);
        due("dying", x.count(3), 1);
        due("step", x.step(1, 60), 5);
        due("dying", x.count(3), 0);
        due("held", x.count(4), 0);
    }
}
