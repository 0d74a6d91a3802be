import java.util.List;
import java.util.function.Consumer;

/** The boundaries of what is STARTED, taken away, AS EVER, UNDONE and refused: section 3, a test for each sentence. */
public final class RunsTest {
    private static final int BAD = Bench.BAD, NO = Bench.NO, FULL = Bench.FULL, NONE = Bench.NONE;
    private static final int ON = Bench.ON, OFF = Bench.OFF, DYING = Bench.DYING, GONE = Bench.GONE;
    private static final int PLAIN = Bench.PLAIN, RETURNING = Bench.RETURNING;

    public static void main(String[] args) {
        Bench.sentence("3 A PROCESSOR STARTED is at a CELL with an ACC, without RETURNS, not HALTED", RunsTest::started);
        Bench.sentence("what of them was HELD is so no more", RunsTest::startLetsGo);
        Bench.sentence("by that, too, one that is DYING can be GONE", RunsTest::goneByStart);
        Bench.sentence("Taken away is a PROBE: OFF at once", RunsTest::offAtOnce);
        Bench.sentence("GONE, if it HOLDS none, else DYING.", RunsTest::goneOrDying);
        Bench.sentence("AS EVER: what a PROCESSOR would be behind n STEPS, were there no PROBES", RunsTest::asEver);
        Bench.sentence("(nothing changes by it).", RunsTest::nothingChangesByEver);
        Bench.sentence("A change: a PROBE laid, ON, OFF, taken away, a FILTER given, STEPS, a PROCESSOR STARTED, a number of"
            + " MEMORY told.", RunsTest::changes);
        Bench.sentence("UNDONE is the latest change", RunsTest::latestChange);
        Bench.sentence("the last 4 can be", RunsTest::lastFour);
        Bench.sentence("behind LAID none can be", RunsTest::noneBehindLaid);
        Bench.sentence("BAD: a number is none that is told (PROCESSORS, CELLS such as there are; PROBES that are not GONE).",
            RunsTest::suchAsThereAre);
        Bench.sentence("NO: not as things stand. NONE: there is none. FULL.", RunsTest::refusals);
        Bench.sentence("Of several the first in this order, whatever the order at a call; nothing changes then.",
            RunsTest::firstInThisOrder);
        Bench.sentence("THE TEXT stays when it is LAID or given as a FILTER.", RunsTest::textStays);
        Bench.sentence("An object is used for at most 512 calls after it has been made", RunsTest::longestRun);
        Bench.end();
    }

    private static void started() {
        Subject x = Bench.in(Scenes::deep);
        Bench.due("start", x.start(0, 1, 999), 3);
        Bench.isAt(x, 0, 1, 999, 0, 0);
        Bench.due("no returns", x.returns(0, 0, 1), NONE);
        Bench.due("steps stay", x.processor(0, 4), 12);
        Bench.due("the ring stays", x.processor(0, 5), 4);
        Bench.due("lost stays", x.processor(0, 6), 2);
        Bench.due("six calls can be made again", x.step(0, 11), 11);
        Bench.isAt(x, 0, 0, 4, 6, 0);
        x = Bench.in(Scenes::halted);
        Bench.due("start", x.start(0, 4, 0), 0);
        Bench.isAt(x, 0, 4, 0, 0, 0);
        Bench.isAt(x, 1, 5, 0, 0, 1);
        Bench.due("start", x.start(1, 0, 999), 0);
        Bench.isAt(x, 1, 0, 999, 0, 0);
        Bench.due("it goes on", x.step(1, 1), 1);
        Bench.isAt(x, 1, 3, 999, 0, 0);
        Bench.due("as it is, again", x.start(1, 3, 999), 0);
        Bench.due("a change all the same", x.undo(), 3);
    }

    private static void startLetsGo() {
        Subject x = Bench.in(Scenes::busy);
        Bench.due("one of one", x.start(0, 3, 0), 1);
        Bench.due("held", x.count(4), 2);
        Bench.due("by 0", x.look(0, 6), 1);
        Bench.due("by 1", x.look(1, 6), 1);
        Bench.due("two of two", x.start(1, 3, 0), 2);
        Bench.due("held", x.count(4), 0);
        Bench.counts(x, 1, 0, 0, 0, 0);
        Bench.due("it stays ON", x.look(1, 0), ON);
        Bench.due("none of none", x.start(1, 3, 0), 0);
        x = Bench.in(Scenes::deep);
        Bench.due("three of six", x.start(0, 0, 0), 3);
        Bench.due("holds", x.look(0, 6), 0);
        Bench.due("hits", x.look(0, 3), 0);
        Bench.due("returns not held", x.step(1, 4), 4);
        Bench.due("it can hold again", x.look(0, 6), 1);
        Bench.due("of the other, without", x.start(0, 0, 0), 0);
        Bench.due("it holds", x.look(0, 6), 1);
        // OFF: it holds no more, and is OFF still.
        x = Bench.laid("c03ir");
        Bench.due("probe", x.probe(RETURNING, 3), 0);
        Bench.due("step", x.step(0, 2), 2);
        Bench.due("off", x.turn(0, 0), 0);
        Bench.due("start", x.start(0, 0, 0), 1);
        Bench.due("is", x.look(0, 0), OFF);
        Bench.counts(x, 0, 0, 0, 0, 0);
    }

    private static void goneByStart() {
        Subject x = Bench.in(Scenes::busy);
        Bench.due("start", x.start(0, 3, 0), 1);
        Bench.due("one is inside", x.look(0, 0), DYING);
        Bench.due("start", x.start(1, 3, 0), 2);
        Bench.due("nobody is", x.look(0, 0), GONE);
        Bench.due("dying", x.count(3), 0);
        Bench.due("the cell is free", x.probe(PLAIN, 4), 0);
        // Three of one PROCESSOR at once.
        x = Bench.in(Scenes::deep);
        Bench.due("remove", x.remove(0), 0);
        Bench.due("start", x.start(0, 0, 0), 3);
        Bench.due("is", x.look(0, 0), GONE);
        Bench.due("the other stays", x.look(1, 0), ON);
    }

    private static void offAtOnce() {
        Subject x = Bench.in(Scenes::deep);
        Bench.due("on", x.count(2), 2);
        Bench.due("shows", x.code(0, 0), '!');
        Bench.due("dying", x.remove(0), 0);
        Bench.due("on", x.count(2), 1);
        Bench.due("shows", x.code(0, 0), 'i');
        Bench.due("missed", x.look(0, 5), 3);
        Bench.due("step", x.step(1, 1), 1);
        Bench.due("nobody comes by", x.look(0, 5), 3);
        Bench.due("gone", x.remove(1), 1);
        Bench.due("on", x.count(2), 0);
        Bench.due("shows", x.code(1, 0), 'c');
        Bench.due("step", x.step(1, 1), 1);
        Bench.due("nobody comes by", x.processor(1, 5), 0);
    }

    private static void goneOrDying() {
        for (int holds = 0; holds <= 3; holds++) {
            for (int off = 0; off < 2; off++) {
                Subject x = Bench.laid("ic00");
                Bench.due("probe", x.probe(RETURNING, 0), 0);
                Bench.due("step", x.step(0, 1 + 2 * holds), 1 + 2 * holds);
                Bench.due("holds", x.look(0, 6), holds);
                if (off == 1) {
                    Bench.due("off", x.turn(0, 0), 0);
                }
                Bench.due("remove", x.remove(0), holds == 0 ? 1 : 0);
                Bench.due("is", x.look(0, 0), holds == 0 ? GONE : DYING);
                Bench.due("dying", x.count(3), holds == 0 ? 0 : 1);
                Bench.due("held", x.count(4), holds);
                Bench.due("holds", x.look(0, 6), holds == 0 ? NO : holds);
            }
        }
    }

    private static void asEver() {
        String code = "is1p1dz00dz14hc20l1hic25rs2p2j32r";
        for (int n = 0; n <= 20; n++) {
            everIsAsSteps(code, n);
        }
        everIsAsSteps("c00", 6);
        everIsAsSteps("c00", 7);
        everIsAsSteps("c00", 60);
        everIsAsSteps("i", 1);
        everIsAsSteps("i", 2);
        everIsAsSteps("i".repeat(60), 59);
        everIsAsSteps("i".repeat(60), 60);
        everIsAsSteps("ij00", 60);
        // From where it stands, HELD or HALTED or not, the other one as it stands.
        Subject x = Bench.in(Scenes::busy);
        int[] cells = {10, 8, 3, 3, 3};
        for (int n = 0; n < cells.length; n++) {
            Bench.due("cell", x.ever(1, n, 0), cells[n]);
            Bench.due("halted", x.ever(1, n, 3), n >= 3 ? 1 : 0);
            Bench.due("memory", x.ever(1, n, 4), 77);
        }
        x = Bench.in(Scenes::halted);
        Bench.due("halted", x.ever(0, 0, 3), 1);
        Bench.due("it stays", x.ever(0, 60, 0), 3);
        Bench.due("it stays", x.ever(1, 60, 0), 5);
        x = Bench.laid("is7h");
        for (int k = 0; k < 8; k++) {
            Bench.due("poke", x.poke(k, 999), 0);
        }
        Bench.due("all together", x.ever(0, 0, 4), 7992);
        Bench.due("all together", x.ever(0, 2, 4), 6994);
    }

    private static void everIsAsSteps(String code, int n) {
        Subject before = Bench.laid(code);
        Subject behind = Bench.laid(code);
        Bench.due("probe", before.probe(PLAIN, 0), 0);
        if (n > 0) {
            behind.step(0, n);
        }
        for (int what = 0; what < 4; what++) {
            Bench.due("ever(0, " + n + ", " + what + ") of " + code, before.ever(0, n, what), behind.processor(0, what));
        }
        int together = 0;
        for (int k = 0; k < 8; k++) {
            together += behind.memory(k);
        }
        Bench.due("ever(0, " + n + ", 4) of " + code, before.ever(0, n, 4), together);
    }

    private static void nothingChangesByEver() {
        for (int c = 0; c < 2; c++) {
            int who = c;
            Bench.refused("ever", Scenes::busy, x -> x.ever(who, 60, 3), 1);
            Bench.refused("ever", Scenes::halted, x -> x.ever(who, 60, 3), 1);
        }
        Bench.refused("ever", Scenes::deep, x -> x.ever(0, 60, 2), 6);
        Bench.refused("ever", Scenes::fresh, x -> x.ever(0, 60, 0), 13);
        Bench.refused("ever", Scenes::six, x -> x.ever(1, 7, 1), 7);
    }

    private static void changes() {
        for (int scene = 0; scene < 2; scene++) {
            Consumer<Subject> few = scene == 0 ? RunsTest::oneProbe : Scenes::busy;
            int probe = scene == 0 ? 0 : 1;
            Bench.undone("a probe laid", few, x -> x.probe(RETURNING, 5));
            Bench.undone("off", few, x -> x.turn(probe, 0));
            Bench.undone("taken away", few, x -> x.remove(probe));
            Bench.undone("steps", few, x -> x.step(0, 7));
            Bench.undone("steps", few, x -> x.step(1, 1));
            Bench.undone("started", few, x -> x.start(0, 3, 5));
            Bench.undone("started", few, x -> x.start(1, 0, 999));
            Bench.undone("told", few, x -> x.poke(7, 999));
        }
        Bench.undone("on", Scenes::busy, x -> x.turn(3, 1));
        Bench.undone("told", Scenes::busy, x -> x.poke(5, 0));
        Bench.undone("a filter", Scenes::longText, x -> x.filter(0));
        Bench.undone("none for a filter", RunsTest::withFilter, x -> x.filter(0));
        Bench.undone("steps, 0", RunsTest::atTheEnd, x -> x.step(0, 60));
        Bench.undone("steps", Scenes::deep, x -> x.step(0, 2));
        Bench.undone("started", Scenes::deep, x -> x.start(0, 0, 0));
        Bench.undone("dying", Scenes::deep, x -> x.remove(0));
        Bench.undone("started", Scenes::halted, x -> x.start(1, 4, 999));
        noChanges();
    }

    private static void oneProbe(Subject x) {
        Bench.say(x, "c04hic09rdr");
        Bench.due("lay", x.lay(), 11);
        Bench.due("probe", x.probe(PLAIN, 4), 0);
    }

    private static void withFilter(Subject x) {
        oneProbe(x);
        Bench.give(x, 0, "m7a<");
        x.wipe();
    }

    private static void atTheEnd(Subject x) {
        Bench.say(x, "i");
        Bench.due("lay", x.lay(), 1);
        Bench.due("step", x.step(0, 1), 1);
    }

    private static void noChanges() {
        Subject x = new Subject();
        Bench.due("poke", x.poke(0, 1), 0);
        Bench.due("write", x.write('0'), 1);
        Bench.due("fault", x.fault(), 0);
        Bench.due("asked", x.asked(0), 0);
        Bench.due("wipe", x.wipe(), 1);
        Bench.due("code", x.code(0, 0), 'l');
        Bench.due("memory", x.memory(0), 1);
        Bench.due("processor", x.processor(0, 0), 0);
        Bench.due("returns", x.returns(0, 0, 0), NONE);
        Bench.due("ring", x.ring(0, 0, 0), NONE);
        Bench.due("look", x.look(0, 0), GONE);
        Bench.due("ever", x.ever(0, 3, 0), 14);
        Bench.due("changes", x.count(5), 1);
        // THE TEXT is none of what is UNDONE.
        Bench.due("write", x.write('7'), 1);
        Bench.due("undo", x.undo(), 0);
        Bench.due("letters", x.count(6), 1);
        Bench.due("asked", x.asked(0), 7);
    }

    private static void latestChange() {
        Subject x = Bench.laid("iij00");
        Bench.due("poke", x.poke(0, 5), 0);
        Bench.due("probe", x.probe(PLAIN, 1), 0);
        Bench.due("step", x.step(0, 5), 5);
        Bench.due("start", x.start(1, 2, 9), 0);
        Bench.due("undo", x.undo(), 3);
        Bench.isAt(x, 1, 0, 0, 0, 0);
        Bench.due("hits", x.look(0, 3), 2);
        Bench.due("undo", x.undo(), 2);
        Bench.isAt(x, 0, 0, 0, 0, 0);
        Bench.due("steps", x.processor(0, 4), 0);
        Bench.due("in the ring", x.processor(0, 5), 0);
        Bench.due("hits", x.look(0, 3), 0);
        // A change behind what was UNDONE is the latest then.
        Bench.due("turn", x.turn(0, 0), 0);
        Bench.due("changes", x.count(5), 3);
        Bench.due("undo", x.undo(), 2);
        Bench.due("is", x.look(0, 0), ON);
        Bench.due("undo", x.undo(), 1);
        Bench.due("is", x.look(0, 0), GONE);
        Bench.due("memory", x.memory(0), 5);
        Bench.due("undo", x.undo(), 0);
        Bench.due("memory", x.memory(0), 0);
        Bench.due("undo", x.undo(), NO);
        writtenOver();
    }

    /** The first changes of a long row, each of another sort, over what the ones before have left. */
    private static void change(Subject x, int many) {
        Bench.say(x, "c04hic09rdr");
        Bench.due("lay", x.lay(), 11);
        Bench.say(x, "a1<");
        for (int i = 0; i < many; i++) {
            switch (i) {
                case 0 -> Bench.due("probe", x.probe(RETURNING, 4), 0);
                case 1 -> Bench.due("step", x.step(0, 2), 2);
                case 2 -> Bench.due("probe", x.probe(PLAIN, 9), 1);
                case 3 -> Bench.due("filter", x.filter(1), 3);
                case 4 -> Bench.due("step", x.step(1, 4), 4);
                case 5 -> Bench.due("remove", x.remove(0), 0);
                case 6 -> Bench.due("step", x.step(0, 3), 3);
                case 7 -> Bench.due("poke", x.poke(3, 999), 0);
                case 8 -> Bench.due("start", x.start(1, 9, 1), 1);
                case 9 -> Bench.due("step", x.step(0, 60), 2);
                case 10 -> Bench.due("probe", x.probe(PLAIN, 3), 0);
                case 11 -> Bench.due("turn", x.turn(1, 0), 1);
                case 12 -> Bench.due("remove", x.remove(1), 1);
                default -> Bench.due("start", x.start(0, 0, 0), 0);
            }
        }
    }

    private static void lastFour() {
        for (int many = 0; many <= 14; many++) {
            for (int undone = 0; undone <= Math.min(many, 4); undone++) {
                undoneIsAsNotDone(many, undone);
            }
            Subject x = new Subject();
            change(x, many);
            Bench.due("changes", x.count(5), Math.min(many, 4));
            for (int more = Math.min(many, 4) - 1; more >= 0; more--) {
                Bench.due("undo", x.undo(), more);
                Bench.due("changes", x.count(5), more);
            }
            Bench.due("a fifth", x.undo(), NO);
        }
        // More of them between, too: four at most, whatever was UNDONE before.
        Subject x = new Subject();
        for (int v = 1; v <= 5; v++) {
            Bench.due("poke", x.poke(0, v), v - 1);
        }
        for (int round = 0; round < 3; round++) {
            Bench.due("undo", x.undo(), 3);
            Bench.due("undo", x.undo(), 2);
            Bench.due("memory", x.memory(0), 3);
            Bench.due("poke", x.poke(0, 40 + round), 3);
            Bench.due("poke", x.poke(0, 5), 40 + round);
            Bench.due("changes", x.count(5), 4);
        }
        for (int more = 3; more >= 0; more--) {
            Bench.due("undo", x.undo(), more);
        }
        Bench.due("memory", x.memory(0), 1);
        Bench.due("undo", x.undo(), NO);
    }

    private static void undoneIsAsNotDone(int many, int undone) {
        Bench.alike(undone + " of " + many + " changes UNDONE", x -> {
            change(x, many);
            undo(x, undone);
        }, x -> change(x, many - undone));
    }

    private static void undo(Subject x, int many) {
        for (int i = 0; i < many; i++) {
            Bench.due("undo", x.undo() == NO ? 0 : 1, 1);
        }
    }

    /** Behind each of these changes, the last ones UNDONE, all is as it was ahead of them. */
    private static void givenBack(Consumer<Subject> scene, List<Consumer<Subject>> changes) {
        for (int many = 1; many <= changes.size(); many++) {
            for (int undone = 1; undone <= Math.min(many, 4); undone++) {
                int done = many;
                int back = undone;
                Bench.alike(undone + " of " + many + " UNDONE", x -> {
                    scene.accept(x);
                    changes.subList(0, done).forEach(change -> change.accept(x));
                    undo(x, back);
                }, x -> {
                    scene.accept(x);
                    changes.subList(0, done - back).forEach(change -> change.accept(x));
                });
            }
        }
    }

    private static void writtenOver() {
        // Rounds of the same calls, each with its own numbers in the same places.
        givenBack(x -> {
            Bench.say(x, "c12c17c12j00ic17ric22ridr");
            Bench.due("lay", x.lay(), 25);
            Bench.due("probe", x.probe(PLAIN, 12), 0);
            Bench.due("probe", x.probe(RETURNING, 17), 1);
            Bench.due("probe", x.probe(PLAIN, 22), 2);
            Bench.give(x, 2, "a2=!");
        }, List.of(x -> x.step(0, 8), x -> x.step(0, 60), x -> x.start(0, 12, 5), x -> x.step(0, 60)));
        // A number that is used again for another PROBE.
        givenBack(x -> {
            Bench.say(x, "ic05hir");
            Bench.due("lay", x.lay(), 7);
            Bench.say(x, "0");
        }, List.of(x -> x.probe(RETURNING, 0), x -> x.step(0, 1), x -> x.turn(0, 0), x -> x.remove(0),
            x -> x.probe(PLAIN, 5), x -> x.filter(0), x -> x.step(0, 60), x -> x.remove(0), x -> x.probe(RETURNING, 5)));
        // RETURNS taken off, and others put in their place.
        givenBack(x -> {
            Bench.say(x, "c06c06idr");
            Bench.due("lay", x.lay(), 9);
            Bench.due("probe", x.probe(RETURNING, 7), 0);
        }, List.of(x -> x.step(0, 3), x -> x.step(0, 1), x -> x.step(0, 1), x -> x.turn(0, 0), x -> x.step(0, 2)));
    }

    private static void noneBehindLaid() {
        for (int many = 0; many <= 5; many++) {
            Subject x = new Subject();
            change(x, many);
            Bench.say(x, "ih");
            Bench.due("lay", x.lay(), 2);
            Bench.due("changes", x.count(5), 0);
            Bench.due("undo", x.undo(), NO);
            Bench.due("cells", x.count(0), 2);
            Bench.due("poke", x.poke(0, 1), 0);
            Bench.due("those behind it alone", x.undo(), 0);
            Bench.due("undo", x.undo(), NO);
        }
        Bench.refused("lay of a fault", Scenes::busy, Subject::lay, NO);
    }

    private static void suchAsThereAre() {
        Subject x = Bench.laid("iih");
        Bench.due("the last cell", x.code(2, 0), 'h');
        Bench.due("no cell", x.code(3, 0), BAD);
        Bench.due("the last cell", x.start(0, 2, 0), 0);
        Bench.due("no cell", x.start(0, 3, 0), BAD);
        Bench.due("the last cell", x.probe(PLAIN, 2), 0);
        Bench.due("no cell", x.probe(PLAIN, 3), BAD);
        Bench.due("not gone", x.filter(0), NO);
        Bench.due("gone", x.filter(1), BAD);
        Bench.due("not gone", x.turn(0, 0), 0);
        Bench.due("gone", x.turn(1, 0), BAD);
        Bench.due("not gone", x.remove(0), 1);
        Bench.due("gone by now", x.remove(0), BAD);
        Bench.due("gone by now", x.turn(0, 1), BAD);
        Bench.due("gone by now", x.filter(0), BAD);
        Bench.due("a processor", x.step(1, 1), 1);
        Bench.due("no processor", x.step(2, 1), BAD);
        Bench.say(x, "h");
        Bench.due("lay", x.lay(), 1);
        Bench.due("no cell any more", x.code(1, 0), BAD);
        Bench.due("no cell any more", x.start(0, 1, 0), BAD);
        Bench.due("no cell any more", x.probe(0, 1), BAD);
    }

    private static void refusals() {
        Bench.due("BAD", CodeProbes.BAD, -1);
        Bench.due("NO", CodeProbes.NO, -2);
        Bench.due("FULL", CodeProbes.FULL, -3);
        Bench.due("NONE", CodeProbes.NONE, -4);
        Bench.refused("turn", Scenes::busy, x -> x.turn(1, 1), NO);
        Bench.refused("ring", Scenes::busy, x -> x.ring(0, 1, 0), NONE);
        Bench.refused("probe", Scenes::six, x -> x.probe(0, 6), FULL);
        Bench.refused("write", Scenes::longText, x -> x.write('!'), FULL);
    }

    private static void firstInThisOrder() {
        badAheadOfNo();
        // BAD ahead of NONE.
        Bench.refused("returns", Scenes::busy, x -> x.returns(0, 6, 2), BAD);
        Bench.refused("returns", Scenes::busy, x -> x.returns(0, 6, -1), BAD);
        Bench.refused("returns", Scenes::busy, x -> x.returns(2, 6, 0), BAD);
        Bench.refused("returns", Scenes::fresh, x -> x.returns(-1, 0, 0), BAD);
        Bench.refused("ring", Scenes::busy, x -> x.ring(0, 4, 3), BAD);
        Bench.refused("ring", Scenes::busy, x -> x.ring(0, 4, -1), BAD);
        Bench.refused("ring", Scenes::busy, x -> x.ring(2, 4, 0), BAD);
        Bench.refused("ring", Scenes::fresh, x -> x.ring(-1, 0, 0), BAD);
        // BAD ahead of FULL.
        Bench.refused("write", Scenes::longText, x -> x.write(31), BAD);
        Bench.refused("write", Scenes::longText, x -> x.write(127), BAD);
        Bench.refused("probe", Scenes::six, x -> x.probe(2, 6), BAD);
        Bench.refused("probe", Scenes::six, x -> x.probe(-1, 6), BAD);
        Bench.refused("probe", Scenes::six, x -> x.probe(0, 10), BAD);
        Bench.refused("probe", Scenes::six, x -> x.probe(0, -1), BAD);
        // NO ahead of FULL, and BAD ahead of both.
        Bench.refused("probe", Scenes::six, x -> x.probe(0, 8), NO);
        Bench.refused("probe", Scenes::six, x -> x.probe(0, 0), NO);
        Bench.refused("probe", Scenes::six, x -> x.probe(2, 8), BAD);
        Bench.refused("probe", Scenes::six, x -> x.probe(2, 0), BAD);
    }

    private static void badAheadOfNo() {
        Bench.refused("probe", Scenes::busy, x -> x.probe(2, 1), BAD);
        Bench.refused("probe", Scenes::busy, x -> x.probe(-1, 4), BAD);
        Bench.refused("turn", Scenes::busy, x -> x.turn(0, 2), BAD);
        Bench.refused("turn", Scenes::busy, x -> x.turn(0, -1), BAD);
        Bench.refused("turn", Scenes::busy, x -> x.turn(4, 0), BAD);
        Bench.refused("remove", Scenes::busy, x -> x.remove(4), BAD);
        Bench.refused("filter", Scenes::busy, x -> x.filter(4), BAD);
        Bench.refused("filter", Scenes::busy, x -> x.filter(6), BAD);
        Bench.refused("start", Scenes::busy, x -> x.start(2, 1, 0), BAD);
        Bench.refused("start", Scenes::busy, x -> x.start(0, 1, 1000), BAD);
        Bench.refused("start", Scenes::busy, x -> x.start(0, 1, -1), BAD);
        Bench.refused("step", Scenes::halted, x -> x.step(0, 0), BAD);
        Bench.refused("step", Scenes::halted, x -> x.step(1, 61), BAD);
        Bench.refused("step", Scenes::halted, x -> x.step(2, 1), BAD);
        Bench.refused("poke", Scenes::fresh, x -> x.poke(8, 0), BAD);
        Bench.refused("poke", Scenes::busy, x -> x.poke(-1, 77), BAD);
        Bench.refused("look", Scenes::busy, x -> x.look(4, 8), BAD);
        Bench.refused("look", Scenes::busy, x -> x.look(4, -1), BAD);
        Bench.refused("look", Scenes::busy, x -> x.look(6, 1), BAD);
        Bench.refused("asked", Scenes::busy, x -> x.asked(1000), BAD);
        Bench.refused("asked", Scenes::fresh, x -> x.asked(-1), BAD);
    }

    private static void textStays() {
        Subject x = Bench.said("ih");
        Bench.due("lay", x.lay(), 2);
        Bench.due("letters", x.count(6), 2);
        Bench.due("behind it", x.write('r'), 3);
        Bench.due("the code stays", x.count(0), 2);
        Bench.due("lay", x.lay(), 3);
        Bench.due("code", x.code(2, 1), 'r');
        x = Bench.said("a5");
        Bench.due("probe", x.probe(PLAIN, 0), 0);
        Bench.due("write", x.write('<'), 3);
        Bench.due("filter", x.filter(0), 3);
        Bench.due("letters", x.count(6), 3);
        Bench.due("asked", x.asked(4), 1);
        Bench.due("behind it", x.write('!'), 4);
        Bench.due("asked", x.asked(4), 0);
        // The FILTER is the one that was given, whatever comes into THE TEXT then.
        Bench.due("letters of the filter", x.look(0, 7), 3);
        Bench.due("start", x.start(0, 0, 4), 0);
        Bench.due("step", x.step(0, 1), 1);
        Bench.counts(x, 0, 1, 0, 0, 0);
        Bench.say(x, "0");
        Bench.due("start", x.start(0, 0, 4), 0);
        Bench.due("step", x.step(0, 1), 1);
        Bench.counts(x, 0, 2, 0, 0, 0);
        Bench.due("start", x.start(0, 0, 5), 0);
        Bench.due("step", x.step(0, 1), 1);
        Bench.counts(x, 0, 3, 1, 0, 0);
        // So do the CELLS when THE TEXT is wiped.
        Bench.due("wipe", x.wipe(), 1);
        Bench.due("code", x.code(0, 1), 'l');
        Bench.due("the filter stays", x.look(0, 7), 3);
    }

    private static void longestRun() {
        Subject x = Bench.laid("j00");
        Bench.due("probe", x.probe(PLAIN, 0), 0);
        // 7 calls up to here, and 3 that look at what came of it.
        for (int i = 0; i < 502; i++) {
            Bench.due("step", x.step(0, 60), 60);
        }
        Bench.due("steps", x.processor(0, 4), 502 * 60);
        Bench.due("lost", x.processor(0, 6), 502 * 60 - 4);
        Bench.due("the 512th", x.ring(0, 3, 2), 502 * 60);
    }
}
