/** How things can stand when a call comes: each is made on a new object. */
final class Scenes {
    private Scenes() {
    }

    static void fresh(Subject x) {
        Bench.due("as new", x.count(5), 0);
    }

    /**
     * PROBE 0 is DYING on 4, 1 ON on 9, 2 ON on 0 with a FILTER, 3 OFF on 3, 4 and 5 GONE; the PROCESSORS have RETURNS
     * that are HELD, and RINGS; 4 changes can be UNDONE; THE TEXT, a5, is neither CODE nor a SOUND FILTER.
     */
    static void busy(Subject x) {
        Bench.say(x, "c04hic09rdr");
        Bench.due("lay", x.lay(), 11);
        Bench.due("probe", x.probe(1, 4), 0);
        Bench.due("probe", x.probe(1, 9), 1);
        Bench.due("probe", x.probe(0, 0), 2);
        Bench.due("probe", x.probe(0, 3), 3);
        Bench.due("step", x.step(0, 2), 2);
        Bench.due("step", x.step(1, 4), 4);
        Bench.due("remove", x.remove(0), 0);
        Bench.due("turn", x.turn(3, 0), 2);
        Bench.give(x, 2, "a");
        Bench.due("poke", x.poke(5, 77), 0);
        Bench.say(x, "a5");
        Bench.due("held", x.count(4), 3);
        Bench.due("changes", x.count(5), 4);
    }

    /** All PROBES lie, on the CELLS 0 to 5 of ten; 6 is free. */
    static void six(Subject x) {
        Bench.say(x, "iiiiiiij00");
        Bench.due("lay", x.lay(), 10);
        for (int p = 0; p < 6; p++) {
            Bench.due("probe", x.probe(p % 2, p), p);
        }
    }

    /** PROCESSOR 0 HALTED by an h on 3, 1 where none begins, on 5. */
    static void halted(Subject x) {
        Bench.say(x, "z03hi");
        Bench.due("lay", x.lay(), 5);
        Bench.due("step", x.step(0, 60), 2);
        Bench.due("start", x.start(1, 4, 999), 0);
        Bench.due("step", x.step(1, 60), 1);
        Bench.due("halted", x.processor(0, 3) + x.processor(1, 3), 2);
    }

    /** THE TEXT has 200 letters and is SOUND; PROBE 0 lies. */
    static void longText(Subject x) {
        Bench.say(x, "0" + "!".repeat(199));
        Bench.due("probe", x.probe(0, 0), 0);
    }

    /** PROCESSOR 0 has 6 RETURNS, 3 of them HELD by PROBE 0, its RING is full, 2 are LOST. */
    static void deep(Subject x) {
        Bench.say(x, "ic00");
        Bench.due("lay", x.lay(), 4);
        Bench.due("probe", x.probe(1, 0), 0);
        Bench.due("probe", x.probe(0, 1), 1);
        Bench.due("step", x.step(0, 12), 12);
        Bench.due("returns", x.processor(0, 2), 6);
        Bench.due("held", x.count(4), 3);
        Bench.due("lost", x.processor(0, 6), 2);
    }
}
