/** The boundaries of PROBES, what comes by them, RINGS and FILTERS: section 2, a test for each sentence. */
public final class ProbesTest {
    private static final int BAD = Bench.BAD, NO = Bench.NO, FULL = Bench.FULL, NONE = Bench.NONE;
    private static final int ON = Bench.ON, OFF = Bench.OFF, DYING = Bench.DYING, GONE = Bench.GONE;
    private static final int PLAIN = Bench.PLAIN, RETURNING = Bench.RETURNING;

    public static void main(String[] args) {
        Bench.sentence("2 PROBES 0 to 5 lie on a CELL where an INSTRUCTION begins", ProbesTest::sixProbes);
        Bench.sentence("one at most on each.", ProbesTest::oneOnEach);
        Bench.sentence("A PROBE is of KIND 0 PLAIN or 1 RETURNING", ProbesTest::twoKinds);
        Bench.sentence("it is ON, OFF, DYING or GONE (all at first).", ProbesTest::allGoneAtFirst);
        Bench.sentence("While it is ON its CELL shows a ! in place of its letter", ProbesTest::showsABreak);
        Bench.sentence("the INSTRUCTION is done as told all the same.", ProbesTest::doneAsTold);
        Bench.sentence("if a PROBE that is ON lies where it goes on, it comes by it", ProbesTest::comesByWhatIsOn);
        Bench.sentence("a PLAIN one is HIT", ProbesTest::plainIsHit);
        Bench.sentence("by a RETURNING one, if RETURNS are empty", ProbesTest::missedWithoutReturns);
        Bench.sentence("or the top one is HELD already", ProbesTest::missedIfHeldAlready);
        Bench.sentence("or it HOLDS 3, it is MISSED", ProbesTest::missedIfItHoldsThree);
        Bench.sentence("else the top one is HELD by it (it shows 99).", ProbesTest::topIsHeld);
        Bench.sentence("Then the INSTRUCTION is done.", ProbesTest::firstComesByThenDoes);
        Bench.sentence("If that is r, and what is taken off is HELD, it goes on at that CELL all the same, is HELD no more",
            ProbesTest::heldNoMore);
        Bench.sentence("and if the PROBE is ON, it is HIT (behind the INSTRUCTION)", ProbesTest::hitBehind);
        Bench.sentence("if it is DYING and HOLDS none any more, it is GONE.", ProbesTest::goneByReturn);
        Bench.sentence("HIT by a PROCESSOR: HITS are 1 more; if its FILTER (none: 1) is 0, FILTERED are 1 more",
            ProbesTest::filtered);
        Bench.sentence("else its number, ACC as it is and the STEP (how many this PROCESSOR has done, this one, too) come"
            + " into the RING of the PROCESSOR", ProbesTest::recorded);
        Bench.sentence("which holds the last 4; what goes out of it is LOST.", ProbesTest::lastFour);
        Bench.sentence("A FILTER is letters: a ACC, mK M K, a figure itself", ProbesTest::lettersOfAFilter);
        Bench.sentence("each comes on a STACK (4 at most)", ProbesTest::stackOfFour);
        Bench.sentence("+ - * < = & | take the top two, x being the lower one, y the top", ProbesTest::lowerAndTop);
        Bench.sentence("put x and y together, x less y, x times y (modulo 1000, made 0 to 999)", ProbesTest::reckoned);
        Bench.sentence("1 if x is below y, if they are like ones, if neither is 0, if one is not 0, else 0",
            ProbesTest::compared);
        Bench.sentence("! takes the top one: 1 if it is 0, else 0.", ProbesTest::turnedRound);
        Bench.sentence("It is SOUND, if there always is so much to take", ProbesTest::soMuchToTake);
        Bench.sentence("never more than 4 are on it", ProbesTest::neverMoreThanFour);
        Bench.sentence("and one is in the end.", ProbesTest::oneInTheEnd);
        Bench.end();
    }

    private static void sixProbes() {
        Subject x = Bench.laid("iiiil0j00");
        Bench.due("no beginning", x.probe(PLAIN, 5), NO);
        Bench.due("no beginning", x.probe(RETURNING, 7), NO);
        Bench.due("no beginning", x.probe(PLAIN, 8), NO);
        Bench.due("no cell", x.probe(PLAIN, 9), BAD);
        Bench.due("no cell", x.probe(PLAIN, -1), BAD);
        int[] cells = {6, 0, 1, 2, 3, 4};
        for (int p = 0; p < 6; p++) {
            Bench.due("probe", x.probe(p % 2, cells[p]), p);
            Bench.due("on", x.count(2), p + 1);
        }
        Bench.due("none below", x.look(-1, 0), BAD);
        Bench.due("none above", x.look(6, 0), BAD);
        x = Bench.laid("iiiiiii");
        for (int p = 0; p < 6; p++) {
            Bench.due("probe", x.probe(PLAIN, p), p);
        }
        Bench.due("a seventh", x.probe(PLAIN, 6), FULL);
        Bench.due("gone", x.remove(5), 1);
        Bench.due("the last", x.probe(PLAIN, 6), 5);
        Bench.due("a seventh", x.probe(PLAIN, 5), FULL);
        Bench.due("gone", x.remove(0), 1);
        Bench.due("the first", x.probe(PLAIN, 0), 0);
    }

    private static void oneOnEach() {
        Subject x = Bench.laid("c03ir");
        Bench.due("the first", x.probe(RETURNING, 3), 0);
        Bench.due("on ON", x.probe(RETURNING, 3), NO);
        Bench.due("on ON", x.probe(PLAIN, 3), NO);
        Bench.due("off", x.turn(0, 0), 0);
        Bench.due("on OFF", x.probe(PLAIN, 3), NO);
        Bench.due("on", x.turn(0, 1), 1);
        Bench.due("held", x.step(0, 2), 2);
        Bench.due("dying", x.remove(0), 0);
        Bench.due("on DYING", x.probe(PLAIN, 3), NO);
        Bench.due("beside it", x.probe(PLAIN, 4), 1);
        Bench.due("given back", x.step(0, 1), 1);
        Bench.due("on GONE", x.probe(PLAIN, 3), 0);
        Bench.due("on it again", x.probe(PLAIN, 3), NO);
        Bench.due("gone at once", x.remove(1), 1);
        Bench.due("on GONE", x.probe(PLAIN, 4), 1);
    }

    private static void twoKinds() {
        Subject x = Bench.laid("ii");
        Bench.due("below", x.probe(-1, 0), BAD);
        Bench.due("above", x.probe(2, 0), BAD);
        Bench.due("plain", x.probe(0, 0), 0);
        Bench.due("returning", x.probe(1, 1), 1);
        Bench.due("kind", x.look(0, 1), 0);
        Bench.due("kind", x.look(1, 1), 1);
        Bench.due("step", x.step(0, 2), 2);
        Bench.counts(x, 0, 1, 0, 0, 0);
        Bench.counts(x, 1, 0, 0, 1, 0);
    }

    private static void allGoneAtFirst() {
        Subject x = new Subject();
        for (int p = 0; p < 6; p++) {
            Bench.due("look", x.look(p, 0), GONE);
        }
        x = Bench.laid("c03ir");
        Bench.due("laid", x.probe(RETURNING, 3), 0);
        Bench.due("is", x.look(0, 0), ON);
        Bench.due("turn", x.turn(0, 0), 0);
        Bench.due("is", x.look(0, 0), OFF);
        Bench.due("turn", x.turn(0, 1), 1);
        Bench.due("is", x.look(0, 0), ON);
        Bench.due("held", x.step(0, 2), 2);
        Bench.due("remove", x.remove(0), 0);
        Bench.due("is", x.look(0, 0), DYING);
        Bench.due("given back", x.step(0, 1), 1);
        Bench.due("is", x.look(0, 0), GONE);
        for (int p = 1; p < 6; p++) {
            Bench.due("the others", x.look(p, 0), GONE);
        }
    }

    private static void showsABreak() {
        Subject x = Bench.laid("c03ir");
        Bench.due("without one", x.code(3, 0), 'i');
        for (int kind = 0; kind < 2; kind++) {
            Bench.due("laid", x.probe(kind, 3), 0);
            Bench.due("ON", x.code(3, 0), '!');
            Bench.due("its own", x.code(3, 1), 'i');
            Bench.due("ahead", x.code(2, 0), '3');
            Bench.due("behind", x.code(4, 0), 'r');
            Bench.due("turn", x.turn(0, 0), 0);
            Bench.due("OFF", x.code(3, 0), 'i');
            Bench.due("turn", x.turn(0, 1), 1);
            Bench.due("ON again", x.code(3, 0), '!');
            Bench.due("step", x.step(kind, 2), 2);
            Bench.due("ON, come by", x.code(3, 0), '!');
            Bench.due("taken away", x.remove(0), kind == PLAIN ? 1 : 0);
            Bench.due("GONE or DYING", x.code(3, 0), 'i');
        }
        x = Bench.laid("c00");
        Bench.due("laid", x.probe(PLAIN, 0), 0);
        Bench.due("ON", x.code(0, 0), '!');
        Bench.due("not its figures", x.code(1, 0), '0');
        Bench.due("not its figures", x.code(2, 0), '0');
    }

    /** Every letter of INSTRUCTIONS, run to where it HALTS, with and without PROBES on six of them. */
    private static void doneAsTold() {
        String code = "is1p1dz00dz14hc20l1hic25rs2p2j32r";
        int[] begins = {0, 1, 3, 5, 6, 9, 10, 13, 14, 17, 19, 20, 21, 24, 25, 27, 29, 32};
        Bench.due("as long as this", Bench.laid(code).step(0, 60), 17);
        for (int first = 0; first < begins.length; first++) {
            for (int kind = 0; kind < 2; kind++) {
                runsAlike(code, begins, first, kind);
            }
        }
    }

    private static void runsAlike(String code, int[] begins, int first, int kind) {
        Subject with = Bench.laid(code);
        Subject without = Bench.laid(code);
        for (int p = 0; p < 6; p++) {
            Bench.due("probe", with.probe((kind + p) % 2, begins[(first + p) % begins.length]), p);
        }
        for (int n = 0; n < 18; n++) {
            Bench.due("step", with.step(0, 1), without.step(0, 1));
            for (int what = 0; what < 4; what++) {
                Bench.due("as without", with.processor(0, what), without.processor(0, what));
            }
        }
        for (int k = 0; k < 8; k++) {
            Bench.due("memory", with.memory(k), without.memory(k));
        }
        for (int k = 0; k < 6; k++) {
            Bench.due("returns", with.returns(0, k, 1), without.returns(0, k, 1));
        }
        Bench.due("steps", with.processor(0, 4), without.processor(0, 4));
    }

    private static void comesByWhatIsOn() {
        Subject x = Bench.laid("iij00");
        Bench.due("probe", x.probe(PLAIN, 1), 0);
        Bench.due("elsewhere", x.step(0, 1), 1);
        Bench.due("not yet", x.look(0, 3), 0);
        Bench.due("there", x.step(0, 1), 1);
        Bench.due("hit", x.look(0, 3), 1);
        Bench.due("elsewhere", x.step(0, 2), 2);
        Bench.due("as before", x.look(0, 3), 1);
        Bench.due("off", x.turn(0, 0), 0);
        Bench.due("there", x.step(0, 3), 3);
        Bench.due("OFF: as before", x.look(0, 3), 1);
        Bench.due("on", x.turn(0, 1), 1);
        Bench.due("there", x.step(0, 3), 3);
        Bench.due("hit", x.look(0, 3), 2);

        // DYING: nobody comes by it.
        x = Bench.laid("c03ir");
        Bench.due("probe", x.probe(RETURNING, 3), 0);
        Bench.due("step", x.step(0, 2), 2);
        Bench.due("dying", x.remove(0), 0);
        Bench.due("step", x.step(1, 2), 2);
        Bench.counts(x, 0, 0, 0, 0, 1);
        Bench.due("not held", x.returns(1, 0, 0), 3);
        Bench.due("without returns", x.start(1, 3, 0), 0);
        Bench.due("step", x.step(1, 1), 1);
        Bench.counts(x, 0, 0, 0, 0, 1);

        // One that has HALTED comes by nothing, and one that HALTS where none begins does not, either.
        x = Bench.laid("ih");
        Bench.due("probe", x.probe(PLAIN, 1), 0);
        Bench.due("step", x.step(0, 60), 2);
        Bench.due("no more", x.step(0, 1), NO);
        Bench.counts(x, 0, 1, 0, 0, 0);
        x = Bench.laid("i");
        Bench.due("probe", x.probe(PLAIN, 0), 0);
        Bench.due("step", x.step(0, 1), 1);
        Bench.due("no step", x.step(0, 1), 0);
        Bench.counts(x, 0, 1, 0, 0, 0);
    }

    private static void plainIsHit() {
        Subject x = Bench.laid("c00");
        Bench.due("probe", x.probe(PLAIN, 0), 0);
        Bench.due("without returns", x.step(0, 1), 1);
        Bench.counts(x, 0, 1, 0, 0, 0);
        Bench.due("with six at last", x.step(0, 60), 6);
        Bench.counts(x, 0, 7, 0, 0, 0);
        Bench.due("nothing is held", x.count(4), 0);
        Bench.due("shows", x.returns(0, 5, 0), 3);
        Bench.due("the other", x.step(1, 1), 1);
        Bench.counts(x, 0, 8, 0, 0, 0);
    }

    private static void missedWithoutReturns() {
        Subject x = Bench.laid("ic00");
        Bench.due("probe", x.probe(RETURNING, 0), 0);
        Bench.due("without returns", x.step(0, 1), 1);
        Bench.counts(x, 0, 0, 0, 1, 0);
        Bench.due("with one", x.step(0, 2), 2);
        Bench.counts(x, 0, 0, 0, 1, 1);
        Bench.due("the other, without", x.step(1, 1), 1);
        Bench.counts(x, 0, 0, 0, 2, 1);
        Bench.due("nothing is recorded", x.processor(0, 5) + x.processor(1, 5), 0);
    }

    private static void missedIfHeldAlready() {
        // By itself: it comes by it again inside of one call.
        Subject x = Bench.laid("c03ij03");
        Bench.due("probe", x.probe(RETURNING, 3), 0);
        Bench.due("held", x.step(0, 2), 2);
        Bench.counts(x, 0, 0, 0, 0, 1);
        Bench.due("again", x.step(0, 2), 2);
        Bench.counts(x, 0, 0, 0, 1, 1);
        Bench.due("and again", x.step(0, 2), 2);
        Bench.counts(x, 0, 0, 0, 2, 1);

        // By another, which is ON, OFF, DYING.
        for (int is = ON; is <= DYING; is++) {
            x = Bench.laid("c03idr");
            Bench.due("probe", x.probe(RETURNING, 3), 0);
            Bench.due("probe", x.probe(RETURNING, 4), 1);
            Bench.due("held", x.step(0, 2), 2);
            if (is == OFF) {
                Bench.due("off", x.turn(0, 0), 1);
            } else if (is == DYING) {
                Bench.due("dying", x.remove(0), 0);
            }
            Bench.due("by the other", x.step(0, 1), 1);
            Bench.counts(x, 0, 0, 0, 0, 1);
            Bench.counts(x, 1, 0, 0, 1, 0);
            Bench.due("given back", x.step(0, 1), 1);
            Bench.counts(x, 1, 0, 0, 1, 0);
        }

        // A lower one that is HELD is no hindrance.
        x = Bench.laid("c03ic08hdr");
        Bench.due("probe", x.probe(RETURNING, 3), 0);
        Bench.due("probe", x.probe(RETURNING, 8), 1);
        Bench.due("step", x.step(0, 4), 4);
        Bench.counts(x, 0, 0, 0, 0, 1);
        Bench.counts(x, 1, 0, 0, 0, 1);
        Bench.due("both", x.count(4), 2);
    }

    private static void missedIfItHoldsThree() {
        Subject x = Bench.laid("c00");
        Bench.due("probe", x.probe(RETURNING, 0), 0);
        Bench.due("without returns", x.step(0, 1), 1);
        for (int held = 1; held <= 3; held++) {
            Bench.due("step", x.step(0, 1), 1);
            Bench.counts(x, 0, 0, 0, 1, held);
        }
        Bench.due("a fourth", x.step(0, 1), 1);
        Bench.counts(x, 0, 0, 0, 2, 3);
        Bench.due("shows", x.returns(0, 3, 0), 3);
        Bench.due("a fifth", x.step(0, 1), 1);
        Bench.counts(x, 0, 0, 0, 3, 3);

        // Two of one PROCESSOR, one of the other; one that is given back makes room for one.
        x = Bench.laid("c04hic00r");
        Bench.due("probe", x.probe(RETURNING, 4), 0);
        Bench.due("two", x.step(0, 5), 5);
        Bench.counts(x, 0, 0, 0, 0, 2);
        Bench.due("three", x.step(1, 2), 2);
        Bench.counts(x, 0, 0, 0, 0, 3);
        Bench.due("four", x.step(1, 3), 3);
        Bench.counts(x, 0, 0, 0, 1, 3);
        Bench.due("not held", x.returns(1, 2, 0), 3);
        x = Bench.laid("c03c06c09ir");
        Bench.due("probe", x.probe(RETURNING, 9), 0);
        Bench.due("one", x.step(0, 4), 4);
        Bench.counts(x, 0, 0, 0, 0, 1);
        Bench.due("given back, held", x.step(0, 2), 2);
        Bench.counts(x, 0, 1, 0, 0, 1);
        roomAgainBehindThree();
    }

    private static void roomAgainBehindThree() {
        // Calls itself while M 0 is 0, then gives back; the PROBE on its l0 holds what is on top.
        Subject x = Bench.laid("c03l0z00r");
        Bench.due("probe", x.probe(RETURNING, 3), 0);
        for (int held = 1; held <= 3; held++) {
            Bench.due("c, l, z", x.step(0, 3), 3);
            Bench.counts(x, 0, 0, 0, 0, held);
        }
        Bench.due("c, l, z", x.step(0, 3), 3);
        Bench.counts(x, 0, 0, 0, 1, 3);
        Bench.due("poke", x.poke(0, 1), 0);
        Bench.due("c, l: missed, too", x.step(0, 2), 2);
        Bench.counts(x, 0, 0, 0, 2, 3);
        Bench.due("z, r, to the l", x.step(0, 2), 2);
        Bench.due("l: missed, the top is the fourth", x.step(0, 1), 1);
        Bench.counts(x, 0, 0, 0, 3, 3);
        Bench.due("z, r", x.step(0, 2), 2);
        Bench.due("three are left", x.processor(0, 2), 3);
        Bench.due("l: held already", x.step(0, 1), 1);
        Bench.counts(x, 0, 0, 0, 4, 3);
        Bench.due("z, r: given back", x.step(0, 2), 2);
        Bench.counts(x, 0, 1, 0, 4, 2);
        Bench.due("the other: room again", x.step(1, 2), 2);
        Bench.counts(x, 0, 1, 0, 4, 3);
        Bench.due("shows", x.returns(1, 0, 0), 99);
    }

    private static void topIsHeld() {
        Subject x = Bench.laid("c03c07rdr");
        Bench.due("probe", x.probe(RETURNING, 7), 0);
        Bench.due("step", x.step(0, 2), 2);
        Bench.due("shows", x.returns(0, 1, 0), 6);
        Bench.due("step", x.step(0, 1), 1);
        Bench.due("the lower shows", x.returns(0, 0, 0), 3);
        Bench.due("the top shows", x.returns(0, 1, 0), 99);
        Bench.due("the top is", x.returns(0, 1, 1), 6);
        Bench.due("of the other", x.returns(1, 0, 0), NONE);
        Bench.counts(x, 0, 0, 0, 0, 1);
        Bench.due("nothing is recorded yet", x.processor(0, 5), 0);
        Bench.due("in all", x.count(4), 1);
    }

    private static void firstComesByThenDoes() {
        // A PLAIN one sees ACC and MEMORY as they are ahead of the INSTRUCTION.
        Subject x = Bench.laid("is0h");
        Bench.due("probe", x.probe(PLAIN, 0), 0);
        Bench.due("probe", x.probe(PLAIN, 1), 1);
        Bench.give(x, 1, "m0!");
        Bench.due("step", x.step(0, 2), 2);
        Bench.rings(x, 0, 0, 0, 0, 1);
        Bench.rings(x, 0, 1, 1, 1, 2);
        Bench.counts(x, 1, 1, 0, 0, 0);
        // A RETURNING one on a c holds what was on top, not what the c puts there.
        x = Bench.laid("c03c06h");
        Bench.due("probe", x.probe(RETURNING, 3), 0);
        Bench.due("step", x.step(0, 2), 2);
        Bench.due("what was on top", x.returns(0, 0, 0), 99);
        Bench.due("what the c put", x.returns(0, 1, 0), 6);
        // On an r it holds what that very r takes off.
        x = Bench.laid("c04hr");
        Bench.due("probe", x.probe(RETURNING, 4), 0);
        Bench.due("step", x.step(0, 2), 2);
        Bench.counts(x, 0, 1, 0, 0, 0);
        Bench.isAt(x, 0, 3, 0, 0, 0);
    }

    private static void heldNoMore() {
        for (int is = ON; is <= DYING; is++) {
            Subject x = Bench.laid("c04hir");
            Bench.due("probe", x.probe(RETURNING, 4), 0);
            Bench.due("step", x.step(0, 2), 2);
            if (is == OFF) {
                Bench.due("off", x.turn(0, 0), 0);
            } else if (is == DYING) {
                Bench.due("dying", x.remove(0), 0);
            }
            Bench.due("held", x.count(4), 1);
            Bench.due("shows", x.returns(0, 0, 0), 99);
            Bench.due("r", x.step(0, 1), 1);
            Bench.isAt(x, 0, 3, 1, 0, 0);
            Bench.due("held no more", x.count(4), 0);
            Bench.due("holds", x.look(0, 6), is == DYING ? NO : 0);
            Bench.due("is", x.look(0, 0), is == DYING ? GONE : is);
        }
        // Another RETURN in the same place is not HELD.
        Subject x = Bench.laid("c06c08irdr");
        Bench.due("probe", x.probe(RETURNING, 6), 0);
        Bench.due("held and given back", x.step(0, 3), 3);
        Bench.due("another", x.step(0, 1), 1);
        Bench.due("not held", x.returns(0, 0, 0), 6);
        Bench.due("not held", x.count(4), 0);
        // An r that takes off what is not HELD hits nothing, though a lower one is.
        x = Bench.laid("c03ic08hrr");
        Bench.due("probe", x.probe(RETURNING, 3), 0);
        Bench.due("step", x.step(0, 4), 4);
        Bench.isAt(x, 0, 7, 1, 1, 0);
        Bench.counts(x, 0, 0, 0, 0, 1);
        Bench.due("the lower one", x.returns(0, 0, 0), 99);
    }

    private static void hitBehind() {
        // ACC, MEMORY and STEP are those behind the r.
        Subject x = Bench.laid("c04hs0ir");
        Bench.due("probe", x.probe(RETURNING, 4), 0);
        Bench.due("step", x.step(0, 3), 3);
        Bench.counts(x, 0, 0, 0, 0, 1);
        Bench.due("r", x.step(0, 1), 1);
        Bench.counts(x, 0, 1, 0, 0, 0);
        Bench.rings(x, 0, 0, 0, 1, 4);
        // A PLAIN one on that r is HIT ahead of it.
        x = Bench.laid("c04hir");
        Bench.due("probe", x.probe(RETURNING, 4), 0);
        Bench.due("probe", x.probe(PLAIN, 5), 1);
        Bench.due("step", x.step(0, 3), 3);
        Bench.rings(x, 0, 0, 1, 1, 3);
        Bench.rings(x, 0, 1, 0, 1, 3);
        // OFF: not HIT; ON again ahead of the r: HIT.
        for (int on = 0; on < 2; on++) {
            x = Bench.laid("c04hir");
            Bench.due("probe", x.probe(RETURNING, 4), 0);
            Bench.due("step", x.step(0, 2), 2);
            Bench.due("off", x.turn(0, 0), 0);
            if (on == 1) {
                Bench.due("on", x.turn(0, 1), 1);
            }
            Bench.due("r", x.step(0, 1), 1);
            Bench.counts(x, 0, on, 0, 0, 0);
            Bench.due("in the ring", x.processor(0, 5), on);
        }
    }

    private static void goneByReturn() {
        Subject x = Bench.laid("c03l0z00r");
        Bench.due("probe", x.probe(RETURNING, 3), 0);
        Bench.due("two", x.step(0, 6), 6);
        Bench.due("poke", x.poke(0, 1), 0);
        Bench.due("three", x.step(1, 2), 2);
        Bench.due("dying", x.remove(0), 0);
        Bench.due("one less", x.step(1, 2), 2);
        Bench.due("of the other", x.look(0, 6), 2);
        Bench.due("is", x.look(0, 0), DYING);
        Bench.due("c, l, z, r: not its own", x.step(0, 4), 4);
        Bench.due("holds", x.look(0, 6), 2);
        Bench.due("l, z, r: its own", x.step(0, 3), 3);
        Bench.due("holds", x.look(0, 6), 1);
        Bench.due("is", x.look(0, 0), DYING);
        Bench.due("hits", x.look(0, 3), 0);
        Bench.due("l, z, r: its last", x.step(0, 3), 3);
        Bench.due("is", x.look(0, 0), GONE);
        Bench.due("no probe", x.look(0, 6), NO);
        Bench.due("nothing is recorded", x.processor(0, 5) + x.processor(1, 5), 0);
        Bench.due("held", x.count(4), 0);
        Bench.due("dying", x.count(3), 0);
    }

    private static void filtered() {
        String[] filters = {"", "0", "1", "9", "a", "a!", "m0", "m0!", "m09*9*9*9*"};
        int[] wants = {1, 0, 1, 1, 0, 1, 0, 1, 0};
        for (int i = 0; i < filters.length; i++) {
            Subject x = Bench.laid("i");
            Bench.due("probe", x.probe(PLAIN, 0), 0);
            Bench.give(x, 0, filters[i]);
            Bench.due("step", x.step(0, 1), 1);
            Bench.counts(x, 0, 1, 1 - wants[i], 0, 0);
            Bench.due("in the ring", x.processor(0, 5), wants[i]);
        }
        // Asked at each HIT anew, with ACC and MEMORY as they are then.
        Subject x = Bench.laid("ij00");
        Bench.due("probe", x.probe(PLAIN, 0), 0);
        Bench.give(x, 0, "a2<!");
        Bench.due("ACC 0, 1", x.step(0, 4), 4);
        Bench.counts(x, 0, 2, 2, 0, 0);
        Bench.due("ACC 2", x.step(0, 2), 2);
        Bench.counts(x, 0, 3, 2, 0, 0);
        Bench.give(x, 0, "m7");
        Bench.due("M 7 is 0", x.step(0, 2), 2);
        Bench.counts(x, 0, 4, 3, 0, 0);
        Bench.due("poke", x.poke(7, 999), 0);
        Bench.due("M 7 is 999", x.step(0, 2), 2);
        Bench.counts(x, 0, 5, 3, 0, 0);
        Bench.due("in the ring", x.processor(0, 5), 2);
        // A RETURNING one is asked when it is HIT, not when it is MISSED or holds.
        x = Bench.laid("c04hir");
        Bench.due("probe", x.probe(RETURNING, 4), 0);
        Bench.give(x, 0, "0");
        Bench.due("it holds", x.step(0, 2), 2);
        Bench.counts(x, 0, 0, 0, 0, 1);
        Bench.due("hit", x.step(0, 1), 1);
        Bench.counts(x, 0, 1, 1, 0, 0);
        Bench.due("missed", x.start(0, 4, 0), 0);
        Bench.due("missed", x.step(0, 1), 1);
        Bench.counts(x, 0, 1, 1, 1, 0);
    }

    private static void recorded() {
        Subject x = Bench.laid("iij00");
        Bench.due("probe", x.probe(PLAIN, 2), 0);
        Bench.due("probe", x.probe(PLAIN, 0), 1);
        Bench.due("start", x.start(1, 0, 998), 0);
        Bench.due("step", x.step(1, 4), 4);
        Bench.rings(x, 1, 0, 1, 998, 1);
        Bench.rings(x, 1, 1, 0, 0, 3);
        Bench.rings(x, 1, 2, 1, 0, 4);
        Bench.due("no more", x.ring(1, 3, 0), NONE);
        Bench.due("none of the other", x.processor(0, 5), 0);
        Bench.due("step", x.step(0, 1), 1);
        Bench.rings(x, 0, 0, 1, 0, 1);
        Bench.due("as before", x.processor(1, 5), 3);
        // STEPS go on behind a start.
        Bench.due("start", x.start(0, 2, 7), 0);
        Bench.due("step", x.step(0, 1), 1);
        Bench.rings(x, 0, 1, 0, 7, 2);
        // The STEP that HALTS is one, too.
        x = Bench.laid("ih");
        Bench.due("probe", x.probe(PLAIN, 1), 0);
        Bench.due("step", x.step(0, 60), 2);
        Bench.rings(x, 0, 0, 0, 1, 2);
    }

    private static void lastFour() {
        Subject x = Bench.laid("ij00");
        Bench.due("probe", x.probe(PLAIN, 0), 0);
        for (int hits = 1; hits <= 9; hits++) {
            Bench.due("step", x.step(0, hits == 1 ? 1 : 2), hits == 1 ? 1 : 2);
            Bench.due("in the ring", x.processor(0, 5), Math.min(hits, 4));
            Bench.due("lost", x.processor(0, 6), Math.max(hits - 4, 0));
            int oldest = Math.max(hits - 4, 0);
            Bench.rings(x, 0, 0, 0, oldest, 2 * oldest + 1);
            Bench.rings(x, 0, Math.min(hits, 4) - 1, 0, hits - 1, 2 * hits - 1);
            Bench.due("no more", x.ring(0, Math.min(hits, 4), 0), NONE);
        }
        Bench.due("none of the other", x.processor(1, 6), 0);
        // Of several PROBES, each record goes out whole, the oldest first.
        Subject two = Bench.laid("iij00");
        Bench.due("probe", two.probe(PLAIN, 1), 0);
        Bench.due("probe", two.probe(PLAIN, 0), 1);
        Bench.due("probe", two.probe(PLAIN, 2), 2);
        Bench.due("step", two.step(0, 4), 4);
        Bench.rings(two, 0, 0, 1, 0, 1);
        Bench.rings(two, 0, 1, 0, 1, 2);
        Bench.rings(two, 0, 2, 2, 2, 3);
        Bench.rings(two, 0, 3, 1, 2, 4);
        Bench.due("step", two.step(0, 1), 1);
        Bench.due("lost", two.processor(0, 6), 1);
        Bench.rings(two, 0, 0, 0, 1, 2);
        Bench.rings(two, 0, 1, 2, 2, 3);
        Bench.rings(two, 0, 2, 1, 2, 4);
        Bench.rings(two, 0, 3, 0, 3, 5);
        // What is FILTERED puts nothing out.
        Bench.give(x, 0, "0");
        Bench.due("step", x.step(0, 4), 4);
        Bench.due("filtered", x.look(0, 4), 2);
        Bench.due("lost", x.processor(0, 6), 5);
        Bench.rings(x, 0, 0, 0, 5, 11);
        Bench.rings(x, 0, 3, 0, 8, 17);
    }

    private static void askedIs(String filter, int acc, int want) {
        Subject x = new Subject();
        x.poke(0, 999);
        x.poke(7, 42);
        Bench.say(x, filter);
        Bench.due("asked(" + acc + ") of " + filter, x.asked(acc), want);
        Bench.due("probe", x.probe(PLAIN, 0), 0);
        Bench.due("filter of " + filter, x.filter(0), want == NO && !filter.isEmpty() ? NO : filter.length());
        if (want != NO) {
            Bench.due("start", x.start(0, 0, acc), 0);
            Bench.due("step", x.step(0, 1), 1);
            Bench.due("filtered", x.look(0, 4), want == 0 ? 1 : 0);
        }
    }

    private static void lettersOfAFilter() {
        for (char sign = 32; sign <= 126; sign++) {
            boolean figure = sign >= '0' && sign <= '9';
            askedIs("" + sign, 500, figure ? sign - '0' : sign == 'a' ? 500 : NO);
            boolean number = sign >= '0' && sign <= '7';
            askedIs("m" + sign, 500, !number ? NO : sign == '0' ? 999 : sign == '7' ? 42 : 0);
            boolean joins = "+-*<=&|".indexOf(sign) >= 0;
            Subject x = Bench.said("12" + sign);
            Bench.due("12" + sign + " is sound", x.asked(0) == NO ? 0 : 1, joins ? 1 : 0);
            // What is no letter of a FILTER is not passed over, and nothing stands for it.
            askedIs("12" + sign + "+", 0, sign == '!' ? 1 : NO);
            x = Bench.said("12" + sign + "!");
            Bench.due("12" + sign + "! is sound", x.asked(0) == NO ? 0 : 1, joins ? 1 : 0);
        }
        askedIs("a", 0, 0);
        askedIs("a", 999, 999);
        askedIs("m", 0, NO);
        askedIs("1m", 0, NO);
        askedIs("1m+", 0, NO);
        askedIs("m0m7+", 0, 41);
        // A second figure is a number of its own.
        askedIs("m70+", 0, 42);
        askedIs("10", 0, NO);
        askedIs("10+", 0, 1);
    }

    private static void stackOfFour() {
        askedIs("1234+++", 0, 10);
        askedIs("12345++++", 0, NO);
        // What comes when 4 are on it is not passed over.
        askedIs("12345+++", 0, NO);
        askedIs("1234a+++", 5, NO);
        askedIs("1234m7+++", 0, NO);
        askedIs("aaaa+++", 300, 200);
        askedIs("aaaaa++++", 0, NO);
        askedIs("m7m7m7m7+++", 0, 168);
        askedIs("m7m7m7m7m7++++", 0, NO);
        askedIs("123a+++", 4, 10);
        askedIs("1234a++++", 4, NO);
        askedIs("123m7+++", 4, 48);
        askedIs("1234m7++++", 4, NO);
    }

    private static void lowerAndTop() {
        askedIs("95-", 0, 4);
        askedIs("59-", 0, 996);
        askedIs("59<", 0, 1);
        askedIs("95<", 0, 0);
        askedIs("951--", 0, 5);
        askedIs("95-1-", 0, 3);
        askedIs("9512-+-", 0, 5);
        askedIs("123*+", 0, 7);
        askedIs("12+3*", 0, 9);
    }

    private static void reckoned() {
        askedIs("m0a+", 0, 999);
        askedIs("m0a+", 1, 0);
        askedIs("m0a+", 999, 998);
        askedIs("00+", 0, 0);
        askedIs("aa-", 999, 0);
        askedIs("a1-", 1, 0);
        askedIs("a1-", 0, 999);
        askedIs("0a-", 999, 1);
        askedIs("am0-", 0, 1);
        askedIs("a9*", 111, 999);
        askedIs("a8*", 125, 0);
        askedIs("a8*", 126, 8);
        askedIs("m0a*", 999, 1);
        askedIs("a0*", 999, 0);
        askedIs("a1*", 999, 999);
    }

    private static void compared() {
        int[][] pairs = {{0, 0}, {0, 1}, {1, 0}, {1, 1}, {4, 5}, {5, 5}, {6, 5}, {0, 9}, {9, 0}, {9, 9}};
        for (int[] pair : pairs) {
            int x = pair[0], y = pair[1];
            askedIs("" + x + y + "<", 0, x < y ? 1 : 0);
            askedIs("" + x + y + "=", 0, x == y ? 1 : 0);
            askedIs("" + x + y + "&", 0, x != 0 && y != 0 ? 1 : 0);
            askedIs("" + x + y + "|", 0, x != 0 || y != 0 ? 1 : 0);
        }
        askedIs("am0<", 998, 1);
        askedIs("am0<", 999, 0);
        askedIs("am0=", 999, 1);
        askedIs("am0=", 998, 0);
        askedIs("am0&", 500, 1);
        askedIs("a0|", 500, 1);
    }

    private static void turnedRound() {
        askedIs("a!", 0, 1);
        askedIs("a!", 1, 0);
        askedIs("a!", 999, 0);
        askedIs("a!!", 0, 0);
        askedIs("a!!", 7, 1);
        askedIs("50!-", 0, 4);
        askedIs("5a!-", 3, 5);
    }

    private static void soMuchToTake() {
        askedIs("!", 0, NO);
        askedIs("!1", 0, NO);
        askedIs("1!", 0, 0);
        for (String sign : new String[] {"+", "-", "*", "<", "=", "&", "|"}) {
            askedIs(sign, 0, NO);
            askedIs(sign + "11", 0, NO);
            askedIs("1" + sign, 0, NO);
            askedIs("1" + sign + "1", 0, NO);
            askedIs("11" + sign + sign, 0, NO);
            askedIs("1!" + sign, 0, NO);
        }
        askedIs("11++1", 0, NO);
        askedIs("111++", 0, 3);
        askedIs("111+++", 0, NO);
    }

    private static void neverMoreThanFour() {
        askedIs("1111+++", 0, 4);
        askedIs("1111+1+++", 0, 5);
        askedIs("1111!1++++", 0, NO);
        askedIs("11111++++", 0, NO);
        askedIs("11+1111++++", 0, NO);
        askedIs("11+111+++", 0, 5);
        askedIs("111+" + "1+".repeat(98), 0, NO);
        askedIs("1" + "1+".repeat(99), 0, 100);
    }

    private static void oneInTheEnd() {
        askedIs("", 0, NO);
        askedIs("1", 0, 1);
        askedIs("11", 0, NO);
        askedIs("111", 0, NO);
        askedIs("1111", 0, NO);
        askedIs("111+", 0, NO);
        askedIs("1111++", 0, NO);
        askedIs("11+", 0, 2);
    }
}
