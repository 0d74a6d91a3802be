import java.util.List;
import java.util.function.Consumer;
import java.util.function.ToIntFunction;

/** The boundaries that each call has of its own: promises 1 to 22, a test for each sentence. */
public final class CallsTest {
    private static final int BAD = Bench.BAD, NO = Bench.NO, FULL = Bench.FULL, NONE = Bench.NONE;
    private static final int ON = Bench.ON, OFF = Bench.OFF, DYING = Bench.DYING, GONE = Bench.GONE;
    private static final int PLAIN = Bench.PLAIN, RETURNING = Bench.RETURNING;
    private static final int LOW = Bench.LOW, HIGH = Bench.HIGH;
    private static final List<Consumer<Subject>> SCENES = List.of(Scenes::fresh, Scenes::busy, Scenes::six,
        Scenes::halted, Scenes::longText, Scenes::deep);

    public static void main(String[] args) {
        told();
        probes();
        runs();
        lookedAt();
        Bench.end();
    }

    private static void told() {
        Bench.sentence("`CodeProbes()`: As told; THE TEXT is empty.", CallsTest::asNew);
        Bench.sentence("A letter (32 to 126, as in ASCII) comes behind THE TEXT: how long it is.", CallsTest::write);
        Bench.sentence("BAD; FULL: it has 200.", CallsTest::writeRefused);
        Bench.sentence("`int wipe()`: THE TEXT is empty: how long it was.", CallsTest::wipe);
        Bench.sentence("`int fault()`: FAULT of THE TEXT as CODE. NONE.", CallsTest::fault);
        Bench.sentence("`int lay()`: LAID: how many CELLS;", CallsTest::layAnswers);
        Bench.sentence("MEMORY 0, all PROBES GONE, RINGS empty, PROCESSORS at CELL 0, ACC 0, no STEPS, nothing can be UNDONE.",
            CallsTest::layClears);
        Bench.sentence("nothing can be UNDONE. NO.", CallsTest::layRefused);
    }

    private static void probes() {
        Bench.sentence("A PROBE of a KIND (0, 1) is laid on a CELL, ON, without a FILTER, all counts 0", CallsTest::probe);
        Bench.sentence("its number, the lowest that is GONE.", CallsTest::lowestGone);
        Bench.sentence("BAD; NO: no INSTRUCTION begins there, one lies there (DYING, too); FULL.", CallsTest::probeRefused);
        Bench.sentence("A PROBE is ON (is = 1) or OFF (0): how many are ON then.", CallsTest::turn);
        Bench.sentence("BAD; NO: it is so, or DYING.", CallsTest::turnRefused);
        Bench.sentence("Taken away: 1 if it is GONE, 0 if DYING.", CallsTest::remove);
        Bench.sentence("BAD; NO: it is DYING already.", CallsTest::removeRefused);
        Bench.sentence("THE TEXT is the FILTER of a PROBE (an empty one: none): how many letters.", CallsTest::filter);
        Bench.sentence("BAD; NO: it is not SOUND.", CallsTest::filterRefused);
    }

    private static void runs() {
        Bench.sentence("A PROCESSOR is STARTED at a CELL, with an ACC (0 to 999): how many of its RETURNS were HELD.",
            CallsTest::start);
        Bench.sentence("BAD; NO: no INSTRUCTION begins there.", CallsTest::startRefused);
        Bench.sentence("n STEPS (1 to 60), fewer if it HALTS: how many (one change, also if 0).", CallsTest::step);
        Bench.sentence("BAD; NO: it has HALTED.", CallsTest::stepRefused);
        Bench.sentence("A number of MEMORY (0 to 999): what it was.", CallsTest::poke);
        Bench.sentence("BAD; NO: it is so.", CallsTest::pokeRefused);
        Bench.sentence("`int undo()`: UNDONE: how many more can be. NO.", CallsTest::undo);
    }

    private static void lookedAt() {
        Bench.sentence("The letter that a CELL shows (real = 0), that it has (1). BAD.", CallsTest::code);
        Bench.sentence("`int memory(int k)`: M K. BAD.", CallsTest::memory);
        Bench.sentence("Of a PROCESSOR: the CELL at which it goes on (what = 0; where it HALTED, if it has), ACC (1),"
            + " RETURNS (2), 1 if HALTED (3), STEPS (4), in its RING (5), LOST (6). BAD.", CallsTest::processor);
        Bench.sentence("The k-th of RETURNS (0 the lowest) as it shows (real = 0; HELD: 99), as it is (1). BAD (k below 0);"
            + " NONE: not so many.", CallsTest::returns);
        Bench.sentence("Of the k-th in the RING (0 the oldest): the PROBE (what = 0), ACC (1), STEP (2). BAD (k below 0);"
            + " NONE: not so many.", CallsTest::ring);
        Bench.sentence("Of a number 0 to 5: 0 ON, 1 OFF, 2 DYING, 3 GONE (what = 0)", CallsTest::lookIs);
        Bench.sentence("of a PROBE KIND (1), CELL (2), HITS (3), FILTERED (4), MISSED (5), how many it HOLDS (6), letters of"
            + " its FILTER (7; GONE: NO for 1 to 7). BAD.", CallsTest::look);
        Bench.sentence("THE TEXT as a FILTER: what it is with that ACC (0 to 999) and MEMORY as it is.", CallsTest::asked);
        Bench.sentence("BAD; NO: it is not SOUND (empty, too).", CallsTest::askedRefused);
        Bench.sentence("AS EVER, n STEPS (0 to 60): the CELL (what = 0), ACC (1), RETURNS (2), 1 if HALTED (3), all MEMORY then"
            + " together (4). BAD.", CallsTest::ever);
        Bench.sentence("How many: 0 CELLS, 1 INSTRUCTIONS, 2 PROBES that are ON, 3 DYING, 4 HELD in all, 5 changes that can"
            + " be UNDONE, 6 letters of THE TEXT. BAD.", CallsTest::count);
    }

    /** BAD however things stand, and nothing changes then. */
    private static void bad(String call, ToIntFunction<Subject> deed) {
        for (Consumer<Subject> scene : SCENES) {
            Bench.refused(call, scene, deed, BAD);
        }
    }

    private static void isAsNew(Subject x) {
        for (int c = 0; c < 2; c++) {
            for (int what = 0; what < 7; what++) {
                Bench.due("processor(" + c + ", " + what + ")", x.processor(c, what), 0);
            }
            Bench.due("returns", x.returns(c, 0, 0), NONE);
            Bench.due("ring", x.ring(c, 0, 0), NONE);
        }
        for (int k = 0; k < 8; k++) {
            Bench.due("memory", x.memory(k), 0);
        }
        for (int p = 0; p < 6; p++) {
            Bench.due("look", x.look(p, 0), GONE);
        }
        for (int what = 2; what < 6; what++) {
            Bench.due("count(" + what + ")", x.count(what), 0);
        }
        Bench.due("undo", x.undo(), NO);
    }

    private static void asNew() {
        Subject x = new Subject();
        isAsNew(x);
        Bench.due("letters", x.count(6), 0);
        Bench.due("wipe", x.wipe(), 0);
        // Objects have nothing in common.
        Bench.due("poke", x.poke(0, 5), 0);
        Bench.due("write", x.write('i'), 1);
        Bench.due("lay", x.lay(), 1);
        isAsNew(new Subject());
        Bench.due("cells of another", new Subject().count(0), 24);
    }

    private static void write() {
        Subject x = new Subject();
        for (int letter = 32; letter <= 126; letter++) {
            Bench.due("write", x.write(letter), letter - 31);
        }
        Bench.due("the first letters", x.fault(), 0);
        // The letters are those that were told, in their order.
        String code = "idrhl0s1p2j00z01c02";
        x = Bench.laid(code);
        for (int cell = 0; cell < code.length(); cell++) {
            Bench.due("code", x.code(cell, 1), code.charAt(cell));
        }
        x = Bench.said("!".repeat(199));
        Bench.due("the 200th", x.write('!'), 200);
    }

    private static void writeRefused() {
        for (int letter : new int[] {LOW, -1, 0, 31, 127, 128, 256 + 'i', 65536 + 'i', HIGH}) {
            bad("write(" + letter + ")", x -> x.write(letter));
        }
        for (int letter : new int[] {32, '!', 126}) {
            Bench.refused("write(" + letter + ")", Scenes::longText, x -> x.write(letter), FULL);
        }
        Subject x = Bench.said("i".repeat(200));
        Bench.due("full", x.write('i'), FULL);
        Bench.due("wipe", x.wipe(), 200);
        Bench.due("room again", x.write('i'), 1);
    }

    private static void wipe() {
        Subject x = new Subject();
        Bench.due("empty", x.wipe(), 0);
        Bench.due("write", x.write('0'), 1);
        Bench.due("one", x.wipe(), 1);
        Bench.due("letters", x.count(6), 0);
        Bench.due("asked", x.asked(0), NO);
        Bench.due("fault", x.fault(), NONE);
        Bench.due("empty", x.wipe(), 0);
        x = Bench.in(Scenes::longText);
        Bench.due("all", x.wipe(), 200);
        Bench.due("empty", x.wipe(), 0);
        Bench.due("the first", x.write('5'), 1);
        Bench.due("no old letter is left", x.asked(0), 5);
        Bench.alike("nothing else is changed by wipe", y -> {
            Scenes.busy(y);
            y.wipe();
        }, y -> {
            Scenes.busy(y);
            y.wipe();
            y.wipe();
        });
        Bench.refused("wipe of none", Scenes::fresh, Subject::wipe, 0);
    }

    private static void fault() {
        Bench.refused("fault", Scenes::fresh, Subject::fault, NONE);
        Bench.refused("fault", Scenes::busy, Subject::fault, 0);
        Bench.refused("fault", Scenes::six, Subject::fault, NONE);
        Bench.refused("fault", Scenes::longText, Subject::fault, 0);
        Subject x = Bench.said("i");
        Bench.due("none", x.fault(), NONE);
        Bench.due("write", x.write('j'), 2);
        Bench.due("not yet", x.fault(), 1);
        Bench.due("write", x.write('0'), 3);
        Bench.due("not yet", x.fault(), 1);
        Bench.due("write", x.write('1'), 4);
        Bench.due("none", x.fault(), NONE);
        // FAULT of THE TEXT, not of what is LAID; what is LAID stays.
        Bench.due("lay", x.lay(), 4);
        Bench.due("write", x.write('x'), 5);
        Bench.due("fault", x.fault(), 4);
        Bench.due("cells", x.count(0), 4);
        Bench.due("code", x.code(3, 1), '1');
        Bench.due("it runs", x.step(0, 60), 60);
    }

    private static void layAnswers() {
        Bench.due("one", Bench.said("h").lay(), 1);
        Bench.due("sixty", Bench.said("i".repeat(60)).lay(), 60);
        Subject x = Bench.said("l0j00");
        Bench.due("cells, not instructions", x.lay(), 5);
        Bench.due("again", x.lay(), 5);
        Bench.due("cells", x.count(0), 5);
        Bench.due("instructions", x.count(1), 2);
        // A shorter one behind a longer one leaves nothing of it.
        Bench.say(x, "il1");
        Bench.due("shorter", x.lay(), 3);
        Bench.due("instructions", x.count(1), 2);
        Bench.due("none begins", x.start(0, 2, 0), NO);
        Bench.due("begins", x.start(0, 1, 0), 0);
        Bench.due("no cell", x.start(0, 3, 0), BAD);
        Bench.due("it ends there", x.step(0, 60), 1);
    }

    private static void layClears() {
        for (Consumer<Subject> scene : SCENES) {
            Subject it = Bench.in(scene);
            Bench.say(it, "c04hic09rdr");
            Bench.due("lay", it.lay(), 11);
            isAsNew(it);
            for (int c = 0; c < 2; c++) {
                for (int k = 0; k < 6; k++) {
                    Bench.due("returns", it.returns(c, k, 0), NONE);
                }
            }
        }
        Subject x = Bench.in(Scenes::six);
        for (int k = 0; k < 8; k++) {
            Bench.due("poke", x.poke(k, 999 - k), 0);
        }
        Bench.due("lay", x.lay(), 10);
        isAsNew(x);
        // Nothing is left in what is used again: the next PROBE, RETURNS and RING are new ones.
        for (Consumer<Subject> scene : SCENES) {
            Bench.alike("behind lay", it -> {
                scene.accept(it);
                layAndRun(it);
            }, CallsTest::layAndRun);
        }
    }

    private static void layAndRun(Subject x) {
        Bench.say(x, "c04hic09rdr");
        Bench.due("lay", x.lay(), 11);
        Bench.due("probe", x.probe(RETURNING, 9), 0);
        Bench.due("probe", x.probe(PLAIN, 4), 1);
        Bench.due("step", x.step(0, 4), 4);
        Bench.due("step", x.step(1, 2), 2);
    }

    private static void layRefused() {
        Bench.refused("lay of nothing", Scenes::fresh, Subject::lay, NO);
        Bench.refused("lay of a fault", Scenes::busy, Subject::lay, NO);
        Bench.refused("lay of a fault", Scenes::longText, Subject::lay, NO);
        Bench.refused("lay of nothing", x -> {
            Scenes.deep(x);
            x.wipe();
        }, Subject::lay, NO);
        for (String text : new String[] {"x", "l8", "j01", "j0", "i".repeat(61), "iix"}) {
            Bench.refused("lay of " + text, x -> {
                Scenes.deep(x);
                Bench.say(x, text);
            }, Subject::lay, NO);
        }
    }

    private static void probe() {
        for (int kind = 0; kind < 2; kind++) {
            Subject x = Bench.laid("il0j00");
            Bench.due("probe", x.probe(kind, 1), 0);
            Bench.due("is", x.look(0, 0), ON);
            Bench.due("kind", x.look(0, 1), kind);
            Bench.due("cell", x.look(0, 2), 1);
            Bench.counts(x, 0, 0, 0, 0, 0);
            Bench.due("letters of its filter", x.look(0, 7), 0);
            Bench.due("the first cell", x.probe(kind, 0), 1);
            Bench.due("the last that begins", x.probe(kind, 3), 2);
        }
        // On a number that was another PROBE, with counts and a FILTER.
        Subject x = Bench.laid("ic00");
        Bench.due("probe", x.probe(RETURNING, 0), 0);
        Bench.give(x, 0, "0");
        Bench.due("step", x.step(0, 12), 12);
        Bench.counts(x, 0, 0, 0, 3, 3);
        Bench.due("start", x.start(0, 0, 0), 3);
        Bench.due("remove", x.remove(0), 1);
        Bench.due("probe", x.probe(PLAIN, 1), 0);
        Bench.due("is", x.look(0, 0), ON);
        Bench.due("kind", x.look(0, 1), PLAIN);
        Bench.due("cell", x.look(0, 2), 1);
        Bench.counts(x, 0, 0, 0, 0, 0);
        Bench.due("letters of its filter", x.look(0, 7), 0);
        Bench.give(x, 0, "0");
        Bench.due("step", x.step(0, 4), 4);
        Bench.counts(x, 0, 2, 2, 0, 0);
        Bench.due("remove", x.remove(0), 1);
        Bench.due("probe", x.probe(PLAIN, 0), 0);
        Bench.counts(x, 0, 0, 0, 0, 0);
        Bench.due("step", x.step(0, 1), 1);
        Bench.counts(x, 0, 1, 0, 0, 0);
    }

    private static void lowestGone() {
        Subject x = Bench.in(Scenes::six);
        Bench.due("remove", x.remove(4), 1);
        Bench.due("remove", x.remove(1), 1);
        Bench.due("remove", x.remove(3), 1);
        Bench.due("the lowest", x.probe(PLAIN, 6), 1);
        Bench.due("the next", x.probe(PLAIN, 7), 3);
        Bench.due("the last", x.probe(PLAIN, 1), 4);
        Bench.due("none", x.probe(PLAIN, 3), FULL);
        // One that is DYING or OFF keeps its number.
        x = Bench.in(Scenes::busy);
        Bench.due("behind a dying one", x.probe(PLAIN, 5), 4);
        Bench.due("the last", x.probe(PLAIN, 8), 5);
        Bench.due("none", x.probe(PLAIN, 10), FULL);
        Bench.due("start", x.start(0, 0, 0), 1);
        Bench.due("start", x.start(1, 0, 0), 2);
        Bench.due("the dying one is gone", x.probe(PLAIN, 10), 0);
    }

    private static void probeRefused() {
        for (int kind : new int[] {LOW, -1, 2, HIGH}) {
            bad("probe(" + kind + ", 0)", x -> x.probe(kind, 0));
        }
        for (int cell : new int[] {LOW, -1, 24, 60, HIGH}) {
            bad("probe(0, " + cell + ")", x -> x.probe(0, cell));
        }
        for (int cell : new int[] {1, 2, 6, 7}) {
            Bench.refused("none begins on " + cell, Scenes::busy, x -> x.probe(0, cell), NO);
        }
        for (int cell : new int[] {0, 3, 4, 9}) {
            Bench.refused("ON, OFF or DYING on " + cell, Scenes::busy, x -> x.probe(1, cell), NO);
        }
        Bench.refused("a seventh", Scenes::six, x -> x.probe(0, 6), FULL);
        Bench.refused("a seventh", Scenes::six, x -> x.probe(1, 7), FULL);
        Bench.refused("none begins", Scenes::six, x -> x.probe(0, 9), NO);
        for (int cell = 0; cell < 6; cell++) {
            int there = cell;
            Bench.refused("one lies there", Scenes::six, x -> x.probe(1, there), NO);
        }
    }

    private static void turn() {
        Subject x = Bench.in(Scenes::six);
        for (int p = 0; p < 6; p++) {
            Bench.due("off", x.turn(p, 0), 5 - p);
            Bench.due("is", x.look(p, 0), OFF);
        }
        for (int p = 5; p >= 0; p--) {
            Bench.due("on", x.turn(p, 1), 6 - p);
            Bench.due("is", x.look(p, 0), ON);
        }
        x = Bench.in(Scenes::busy);
        Bench.due("on", x.turn(3, 1), 3);
        Bench.due("off", x.turn(1, 0), 2);
        Bench.due("what it holds stays", x.look(1, 6), 1);
        Bench.due("its filter stays", x.turn(2, 0), 1);
        Bench.due("its filter stays", x.look(2, 7), 1);
        Bench.due("its hits stay", x.look(2, 3), 2);
    }

    private static void turnRefused() {
        for (int p : new int[] {LOW, -1, 6, HIGH}) {
            bad("turn(" + p + ", 0)", x -> x.turn(p, 0));
            bad("turn(" + p + ", 1)", x -> x.turn(p, 1));
        }
        for (int is : new int[] {LOW, -1, 2, HIGH}) {
            bad("turn(0, " + is + ")", x -> x.turn(0, is));
        }
        for (int is = 0; is < 2; is++) {
            int wanted = is;
            Bench.refused("GONE", Scenes::fresh, x -> x.turn(0, wanted), BAD);
            Bench.refused("GONE", Scenes::busy, x -> x.turn(4, wanted), BAD);
            Bench.refused("DYING", Scenes::busy, x -> x.turn(0, wanted), NO);
        }
        Bench.refused("it is ON", Scenes::busy, x -> x.turn(2, 1), NO);
        Bench.refused("it is OFF", Scenes::busy, x -> x.turn(3, 0), NO);
    }

    private static void remove() {
        Subject x = Bench.in(Scenes::busy);
        Bench.due("OFF", x.remove(3), 1);
        Bench.due("is", x.look(3, 0), GONE);
        Bench.due("ON", x.remove(2), 1);
        Bench.due("is", x.look(2, 0), GONE);
        Bench.due("ON, it holds", x.remove(1), 0);
        Bench.due("is", x.look(1, 0), DYING);
        Bench.due("on", x.count(2), 0);
        Bench.due("dying", x.count(3), 2);
        x = Bench.in(Scenes::six);
        for (int p = 0; p < 6; p++) {
            Bench.due("remove", x.remove(p), 1);
        }
        x = Bench.in(Scenes::deep);
        Bench.due("off", x.turn(0, 0), 1);
        Bench.due("OFF, it holds", x.remove(0), 0);
        Bench.due("is", x.look(0, 0), DYING);
    }

    private static void removeRefused() {
        for (int p : new int[] {LOW, -1, 6, HIGH}) {
            bad("remove(" + p + ")", x -> x.remove(p));
        }
        Bench.refused("GONE", Scenes::fresh, x -> x.remove(0), BAD);
        Bench.refused("GONE", Scenes::busy, x -> x.remove(4), BAD);
        Bench.refused("GONE", Scenes::busy, x -> x.remove(5), BAD);
        Bench.refused("DYING", Scenes::busy, x -> x.remove(0), NO);
    }

    private static void filter() {
        Subject x = Bench.in(Scenes::longText);
        Bench.due("the longest", x.filter(0), 200);
        Bench.due("letters", x.look(0, 7), 200);
        Bench.due("step", x.step(0, 1), 1);
        Bench.counts(x, 0, 1, 0, 0, 0);
        x.wipe();
        Bench.due("none", x.filter(0), 0);
        Bench.due("letters", x.look(0, 7), 0);
        Bench.due("none again", x.filter(0), 0);
        Bench.due("changes", x.count(5), 4);
        Bench.due("write", x.write('0'), 1);
        Bench.due("the shortest", x.filter(0), 1);
        Bench.due("letters", x.look(0, 7), 1);
        // None for one that has none, and the same one again: changes like any other.
        x = Bench.laid("i");
        Bench.due("probe", x.probe(Bench.PLAIN, 0), 0);
        x.wipe();
        Bench.due("none for none", x.filter(0), 0);
        Bench.due("changes", x.count(5), 2);
        Bench.give(x, 0, "a");
        Bench.due("the same again", x.filter(0), 1);
        Bench.due("changes", x.count(5), 4);
        // On one that is OFF, and on one that is DYING; the others keep theirs.
        x = Bench.in(Scenes::busy);
        Bench.give(x, 3, "12+");
        Bench.give(x, 0, "m0m1+");
        Bench.due("letters", x.look(3, 7), 3);
        Bench.due("letters", x.look(0, 7), 5);
        Bench.due("letters", x.look(2, 7), 1);
        Bench.due("letters", x.look(1, 7), 0);
    }

    private static void filterRefused() {
        for (int p : new int[] {LOW, -1, 6, HIGH}) {
            bad("filter(" + p + ")", x -> x.filter(p));
        }
        Bench.refused("GONE", Scenes::fresh, x -> x.filter(0), BAD);
        Bench.refused("GONE", Scenes::longText, x -> x.filter(1), BAD);
        Bench.refused("GONE", Scenes::busy, x -> x.filter(5), BAD);
        for (int p = 0; p < 4; p++) {
            int one = p;
            Bench.refused("not sound", Scenes::busy, x -> x.filter(one), NO);
        }
        for (String text : new String[] {"+", "!", "1+", "11", "m8", "m", "11111++++", " ", "a ", "A"}) {
            Bench.refused("filter of " + text, x -> {
                Scenes.busy(x);
                Bench.say(x, text);
            }, x -> x.filter(2), NO);
        }
    }

    private static void start() {
        for (int c = 0; c < 2; c++) {
            Subject x = Bench.laid("il0j00");
            Bench.due("the least", x.start(c, 0, 0), 0);
            Bench.isAt(x, c, 0, 0, 0, 0);
            Bench.due("the most", x.start(c, 3, 999), 0);
            Bench.isAt(x, c, 3, 999, 0, 0);
            Bench.isAt(x, 1 - c, 0, 0, 0, 0);
        }
        Bench.due("none", Bench.in(Scenes::halted).start(0, 0, 0), 0);
        Bench.due("one", Bench.in(Scenes::busy).start(0, 0, 0), 1);
        Bench.due("two", Bench.in(Scenes::busy).start(1, 0, 0), 2);
        Bench.due("three of six", Bench.in(Scenes::deep).start(0, 0, 0), 3);
        Subject x = Bench.laid("ic00");
        Bench.due("step", x.step(0, 12), 12);
        Bench.due("none of six", x.start(0, 0, 0), 0);
        Bench.due("probe", x.probe(RETURNING, 0), 0);
        Bench.due("probe", x.probe(RETURNING, 1), 1);
        Bench.due("the last is held as it HALTS", x.step(0, 60), 14);
        Bench.due("held, by two", x.count(4), 6);
        Bench.due("six of six", x.start(0, 0, 0), 6);
        Bench.due("held", x.count(4), 0);
    }

    private static void startRefused() {
        for (int c : new int[] {LOW, -1, 2, HIGH}) {
            bad("start(" + c + ", 0, 0)", x -> x.start(c, 0, 0));
        }
        for (int cell : new int[] {LOW, -1, 24, 60, HIGH}) {
            bad("start(0, " + cell + ", 0)", x -> x.start(0, cell, 0));
        }
        for (int acc : new int[] {LOW, -1, 1000, HIGH}) {
            bad("start(1, 0, " + acc + ")", x -> x.start(1, 0, acc));
        }
        for (int cell : new int[] {1, 2, 6, 7}) {
            Bench.refused("none begins on " + cell, Scenes::busy, x -> x.start(0, cell, 0), NO);
            Bench.refused("none begins on " + cell, Scenes::busy, x -> x.start(1, cell, 999), NO);
        }
        Bench.refused("behind the last", Scenes::busy, x -> x.start(0, 11, 0), BAD);
    }

    private static void step() {
        Subject x = Bench.laid("j00");
        Bench.due("the least", x.step(0, 1), 1);
        Bench.due("the most", x.step(0, 60), 60);
        Bench.due("one less", x.step(1, 59), 59);
        Bench.due("steps", x.processor(0, 4), 61);
        Bench.due("steps", x.processor(1, 4), 59);
        Bench.due("changes", x.count(5), 3);
        // HALTED with the last one, and with one fewer.
        x = Bench.laid("iih");
        Bench.due("all", x.step(0, 3), 3);
        Bench.due("halted", x.processor(0, 3), 1);
        Bench.due("fewer", x.step(1, 4), 3);
        Bench.due("changes", x.count(5), 2);
        // Where none begins: the STEPS ahead of it, then 0, a change all the same.
        x = Bench.laid("ii");
        Bench.due("all", x.step(0, 2), 2);
        Bench.due("not halted", x.processor(0, 3), 0);
        Bench.due("none", x.step(0, 60), 0);
        Bench.due("halted", x.processor(0, 3), 1);
        Bench.due("changes", x.count(5), 2);
        Bench.due("fewer", x.step(1, 3), 2);
        Bench.due("halted", x.processor(1, 3), 1);
        Bench.due("undo", x.undo(), 2);
        Bench.due("undo of none", x.undo(), 1);
        Bench.due("not halted", x.processor(0, 3), 0);
        Bench.due("steps", x.processor(0, 4), 2);
    }

    private static void stepRefused() {
        for (int c : new int[] {LOW, -1, 2, HIGH}) {
            bad("step(" + c + ", 1)", x -> x.step(c, 1));
        }
        for (int n : new int[] {LOW, -1, 0, 61, HIGH}) {
            bad("step(0, " + n + ")", x -> x.step(0, n));
            bad("step(1, " + n + ")", x -> x.step(1, n));
        }
        for (int n : new int[] {1, 60}) {
            Bench.refused("HALTED by h", Scenes::halted, x -> x.step(0, n), NO);
            Bench.refused("HALTED where none begins", Scenes::halted, x -> x.step(1, n), NO);
            Bench.refused("HALTED by c", x -> {
                Scenes.deep(x);
                Bench.due("the seventh", x.step(0, 60), 2);
            }, x -> x.step(0, n), NO);
            Bench.refused("HALTED by r", x -> {
                Bench.say(x, "r");
                x.lay();
                Bench.due("without any", x.step(0, 60), 1);
            }, x -> x.step(0, n), NO);
        }
    }

    private static void poke() {
        Subject x = new Subject();
        for (int k = 0; k < 8; k++) {
            Bench.due("the most", x.poke(k, 999), 0);
            Bench.due("one less", x.poke(k, 998), 999);
            Bench.due("the least", x.poke(k, 0), 998);
            Bench.due("one more", x.poke(k, 1), 0);
        }
        for (int k = 0; k < 8; k++) {
            Bench.due("memory", x.memory(k), 1);
        }
    }

    private static void pokeRefused() {
        for (int k : new int[] {LOW, -1, 8, HIGH}) {
            bad("poke(" + k + ", 1)", x -> x.poke(k, 1));
        }
        for (int v : new int[] {LOW, -1, 1000, HIGH}) {
            bad("poke(0, " + v + ")", x -> x.poke(0, v));
            bad("poke(7, " + v + ")", x -> x.poke(7, v));
        }
        Bench.refused("it is so", Scenes::fresh, x -> x.poke(0, 0), NO);
        Bench.refused("it is so", Scenes::fresh, x -> x.poke(7, 0), NO);
        Bench.refused("it is so", Scenes::busy, x -> x.poke(5, 77), NO);
        Bench.refused("it is so", x -> {
            Scenes.busy(x);
            x.poke(7, 999);
        }, x -> x.poke(7, 999), NO);
    }

    private static void undo() {
        Bench.refused("none", Scenes::fresh, Subject::undo, NO);
        Bench.refused("none behind lay", x -> {
            Scenes.busy(x);
            Bench.say(x, "c00");
            x.lay();
        }, Subject::undo, NO);
        Bench.refused("none any more", x -> {
            Scenes.busy(x);
            for (int more = 3; more >= 0; more--) {
                Bench.due("undo", x.undo(), more);
            }
        }, Subject::undo, NO);
        Subject x = Bench.in(Scenes::longText);
        Bench.due("one", x.undo(), 0);
        Bench.due("none", x.undo(), NO);
        Bench.due("the text stays", x.count(6), 200);
    }

    private static void code() {
        for (int cell : new int[] {LOW, -1, 24, 60, HIGH}) {
            bad("code(" + cell + ", 0)", x -> x.code(cell, 0));
            bad("code(" + cell + ", 1)", x -> x.code(cell, 1));
        }
        for (int real : new int[] {LOW, -1, 2, HIGH}) {
            bad("code(0, " + real + ")", x -> x.code(0, real));
        }
        Subject x = Bench.in(Scenes::busy);
        String has = "c04hic09rdr";
        String shows = "!04hic09r!r";
        for (int cell = 0; cell < 11; cell++) {
            Bench.due("shows", x.code(cell, 0), shows.charAt(cell));
            Bench.due("has", x.code(cell, 1), has.charAt(cell));
        }
        Bench.due("behind the last", x.code(11, 1), BAD);
    }

    private static void memory() {
        for (int k : new int[] {LOW, -1, 8, HIGH}) {
            bad("memory(" + k + ")", x -> x.memory(k));
        }
        Subject x = Bench.in(Scenes::busy);
        for (int k = 0; k < 8; k++) {
            Bench.due("memory", x.memory(k), k == 5 ? 77 : 0);
        }
    }

    private static void processor() {
        for (int c : new int[] {LOW, -1, 2, HIGH}) {
            bad("processor(" + c + ", 0)", x -> x.processor(c, 0));
            bad("processor(" + c + ", 6)", x -> x.processor(c, 6));
        }
        for (int what : new int[] {LOW, -1, 7, HIGH}) {
            bad("processor(0, " + what + ")", x -> x.processor(0, what));
            bad("processor(1, " + what + ")", x -> x.processor(1, what));
        }
        are(Bench.in(Scenes::busy), 0, 5, 1, 1, 0, 2, 1, 0);
        are(Bench.in(Scenes::busy), 1, 10, 0, 2, 0, 4, 1, 0);
        are(Bench.in(Scenes::halted), 0, 3, 0, 0, 1, 2, 0, 0);
        are(Bench.in(Scenes::halted), 1, 5, 0, 0, 1, 1, 0, 0);
        are(Bench.in(Scenes::deep), 0, 0, 6, 6, 0, 12, 4, 2);
        are(Bench.in(Scenes::deep), 1, 0, 0, 0, 0, 0, 0, 0);
    }

    private static void are(Subject x, int c, int... wants) {
        for (int what = 0; what < wants.length; what++) {
            Bench.due("processor(" + c + ", " + what + ")", x.processor(c, what), wants[what]);
        }
    }

    private static void returns() {
        for (int c : new int[] {LOW, -1, 2, HIGH}) {
            bad("returns(" + c + ", 0, 0)", x -> x.returns(c, 0, 0));
        }
        for (int k : new int[] {LOW, -1}) {
            bad("returns(0, " + k + ", 0)", x -> x.returns(0, k, 0));
            bad("returns(1, " + k + ", 1)", x -> x.returns(1, k, 1));
        }
        for (int real : new int[] {LOW, -1, 2, HIGH}) {
            bad("returns(0, 0, " + real + ")", x -> x.returns(0, 0, real));
        }
        for (int real = 0; real < 2; real++) {
            int asIs = real;
            Bench.refused("none of none", Scenes::fresh, x -> x.returns(0, 0, asIs), NONE);
            Bench.refused("the third of two", Scenes::busy, x -> x.returns(1, 2, asIs), NONE);
            Bench.refused("the seventh of six", Scenes::deep, x -> x.returns(0, 6, asIs), NONE);
            Bench.refused("far too many", Scenes::deep, x -> x.returns(0, HIGH, asIs), NONE);
        }
        Subject x = Bench.in(Scenes::busy);
        Bench.due("the lowest shows", x.returns(1, 0, 0), 99);
        Bench.due("the lowest is", x.returns(1, 0, 1), 3);
        Bench.due("the top shows", x.returns(1, 1, 0), 99);
        Bench.due("the top is", x.returns(1, 1, 1), 8);
        x = Bench.in(Scenes::deep);
        for (int k = 0; k < 6; k++) {
            Bench.due("shows", x.returns(0, k, 0), k < 3 ? 99 : 4);
            Bench.due("is", x.returns(0, k, 1), 4);
        }
    }

    private static void ring() {
        for (int c : new int[] {LOW, -1, 2, HIGH}) {
            bad("ring(" + c + ", 0, 0)", x -> x.ring(c, 0, 0));
        }
        for (int k : new int[] {LOW, -1}) {
            bad("ring(0, " + k + ", 0)", x -> x.ring(0, k, 0));
            bad("ring(1, " + k + ", 2)", x -> x.ring(1, k, 2));
        }
        for (int what : new int[] {LOW, -1, 3, HIGH}) {
            bad("ring(0, 0, " + what + ")", x -> x.ring(0, 0, what));
        }
        for (int what = 0; what < 3; what++) {
            int asked = what;
            Bench.refused("none of none", Scenes::fresh, x -> x.ring(0, 0, asked), NONE);
            Bench.refused("the second of one", Scenes::busy, x -> x.ring(1, 1, asked), NONE);
            Bench.refused("the fifth of four", Scenes::deep, x -> x.ring(0, 4, asked), NONE);
            Bench.refused("far too many", Scenes::deep, x -> x.ring(0, HIGH, asked), NONE);
        }
        Subject x = Bench.in(Scenes::busy);
        Bench.rings(x, 0, 0, 2, 0, 1);
        Bench.rings(x, 1, 0, 2, 0, 1);
        x = Bench.in(Scenes::deep);
        for (int k = 0; k < 4; k++) {
            Bench.rings(x, 0, k, 1, 3 + k, 6 + 2 * k);
        }
    }

    private static void lookIs() {
        for (int p : new int[] {LOW, -1, 6, HIGH}) {
            for (int what = 0; what < 8; what += 7) {
                int asked = what;
                bad("look(" + p + ", " + what + ")", x -> x.look(p, asked));
            }
        }
        Subject x = Bench.in(Scenes::busy);
        int[] wants = {DYING, ON, ON, OFF, GONE, GONE};
        for (int p = 0; p < 6; p++) {
            Bench.due("is", x.look(p, 0), wants[p]);
        }
    }

    private static void look() {
        for (int what : new int[] {LOW, -1, 8, HIGH}) {
            for (int p = 0; p < 6; p++) {
                int one = p;
                bad("look(" + p + ", " + what + ")", x -> x.look(one, what));
            }
        }
        for (int what = 1; what <= 7; what++) {
            int asked = what;
            Bench.refused("GONE", Scenes::fresh, x -> x.look(0, asked), NO);
            Bench.refused("GONE", Scenes::busy, x -> x.look(4, asked), NO);
            Bench.refused("GONE again", x -> {
                Scenes.busy(x);
                x.remove(2);
            }, x -> x.look(2, asked), NO);
        }
        Subject x = Bench.in(Scenes::busy);
        int[][] wants = {{1, 4, 0, 0, 0, 2, 0}, {1, 9, 0, 0, 0, 1, 0}, {0, 0, 2, 0, 0, 0, 1}, {0, 3, 0, 0, 0, 0, 0}};
        for (int p = 0; p < wants.length; p++) {
            for (int what = 1; what <= 7; what++) {
                Bench.due("look(" + p + ", " + what + ")", x.look(p, what), wants[p][what - 1]);
            }
        }
        Bench.due("start", x.start(0, 0, 0), 1);
        Bench.due("filtered", x.step(0, 1), 1);
        Bench.counts(x, 2, 3, 1, 0, 0);
        Bench.counts(Bench.in(Scenes::deep), 0, 0, 0, 3, 3);
    }

    private static void asked() {
        Subject x = Bench.said("am7+");
        Bench.due("the least", x.asked(0), 0);
        Bench.due("the most", x.asked(999), 999);
        Bench.due("poke", x.poke(7, 999), 0);
        Bench.due("memory as it is", x.asked(0), 999);
        Bench.due("memory as it is", x.asked(1), 0);
        Bench.due("undo", x.undo(), 0);
        Bench.due("memory as it is", x.asked(1), 1);
        Bench.refused("asked", Scenes::longText, y -> y.asked(5), 1);
        // The ACC that is told, not that of a PROCESSOR.
        Bench.due("start", x.start(0, 0, 500), 0);
        Bench.due("asked", x.asked(3), 3);
    }

    private static void askedRefused() {
        for (int acc : new int[] {LOW, -1, 1000, HIGH}) {
            bad("asked(" + acc + ")", x -> x.asked(acc));
        }
        for (int acc : new int[] {0, 999}) {
            Bench.refused("empty", Scenes::fresh, x -> x.asked(acc), NO);
            Bench.refused("not sound", Scenes::busy, x -> x.asked(acc), NO);
            Bench.refused("not sound", Scenes::six, x -> x.asked(acc), NO);
        }
    }

    private static void ever() {
        for (int c : new int[] {LOW, -1, 2, HIGH}) {
            bad("ever(" + c + ", 0, 0)", x -> x.ever(c, 0, 0));
        }
        for (int n : new int[] {LOW, -1, 61, HIGH}) {
            bad("ever(0, " + n + ", 0)", x -> x.ever(0, n, 0));
            bad("ever(1, " + n + ", 4)", x -> x.ever(1, n, 4));
        }
        for (int what : new int[] {LOW, -1, 5, HIGH}) {
            bad("ever(0, 1, " + what + ")", x -> x.ever(0, 1, what));
            bad("ever(1, 60, " + what + ")", x -> x.ever(1, 60, what));
        }
        Subject x = Bench.laid("is0j00");
        Bench.due("none", x.ever(0, 0, 1), 0);
        Bench.due("one", x.ever(0, 1, 1), 1);
        Bench.due("one less", x.ever(0, 59, 1), 20);
        Bench.due("the most", x.ever(0, 60, 1), 20);
        Bench.due("the most", x.ever(0, 60, 0), 0);
        Bench.due("the most", x.ever(0, 60, 4), 20);
        Bench.due("one less", x.ever(0, 59, 0), 3);
        x = Bench.in(Scenes::deep);
        Bench.due("returns", x.ever(0, 1, 2), 6);
        Bench.due("not halted", x.ever(0, 1, 3), 0);
        Bench.due("halted", x.ever(0, 2, 3), 1);
        Bench.due("acc", x.ever(0, 60, 1), 7);
        Bench.due("returns", x.ever(1, 3, 2), 1);
    }

    private static void count() {
        for (int what : new int[] {LOW, -1, 7, HIGH}) {
            bad("count(" + what + ")", x -> x.count(what));
        }
        counted(Bench.in(Scenes::fresh), 24, 12, 0, 0, 0, 0, 0);
        counted(Bench.in(Scenes::busy), 11, 7, 2, 1, 3, 4, 2);
        counted(Bench.in(Scenes::six), 10, 8, 6, 0, 0, 4, 10);
        counted(Bench.in(Scenes::halted), 5, 3, 0, 0, 0, 3, 5);
        counted(Bench.in(Scenes::longText), 24, 12, 1, 0, 0, 1, 200);
        counted(Bench.in(Scenes::deep), 4, 2, 2, 0, 3, 3, 4);
        // Of both PROCESSORS, three by each PROBE, which may be DYING.
        Subject x = Bench.laid("ic00");
        Bench.due("probe", x.probe(RETURNING, 0), 0);
        Bench.due("probe", x.probe(RETURNING, 1), 1);
        Bench.due("step", x.step(0, 13), 13);
        Bench.due("step", x.step(1, 13), 13);
        counted(x, 4, 2, 2, 0, 6, 4, 4);
        Bench.due("dying", x.remove(0), 0);
        Bench.due("dying", x.remove(1), 0);
        counted(x, 4, 2, 0, 2, 6, 4, 4);
    }

    private static void counted(Subject x, int... wants) {
        for (int what = 0; what < wants.length; what++) {
            Bench.due("count(" + what + ")", x.count(what), wants[what]);
        }
    }
}
