/** The boundaries of MEMORY, CODE, PROCESSORS and THE TEXT: "Terms", a test for each sentence. */
public final class TermsTest {
    private static final int BAD = Bench.BAD, NO = Bench.NO, FULL = Bench.FULL, NONE = Bench.NONE;
    private static final String FIRST = "l0z13c14s0j00hl1p2s1l0dr";

    public static void main(String[] args) {
        Bench.sentence("1 MEMORY is eight numbers M 0 to 7 (0 to 999 each).", TermsTest::memoryIsEightNumbers);
        Bench.sentence("CODE is letters in CELLS 0, 1, .. (60 at most)", TermsTest::sixtyCells);
        Bench.sentence("INSTRUCTIONS one behind the other:", TermsTest::oneBehindTheOther);
        Bench.sentence("i       ACC is 1 more", TermsTest::oneMore);
        Bench.sentence("d       ACC is 1 less", TermsTest::oneLess);
        Bench.sentence("lK      ACC is M K", TermsTest::load);
        Bench.sentence("sK      M K is ACC", TermsTest::store);
        Bench.sentence("pK      ACC is ACC and M K together", TermsTest::together);
        Bench.sentence("jNN     goes on at CELL NN", TermsTest::jump);
        Bench.sentence("zNN     likewise, if ACC is 0, else behind it", TermsTest::jumpIfZero);
        Bench.sentence("cNN     calls CELL NN: the CELL behind it comes on top of RETURNS; it goes on at NN",
            TermsTest::call);
        Bench.sentence("r       goes on at the CELL on top of RETURNS, which is taken off", TermsTest::giveBack);
        Bench.sentence("h       HALTS", TermsTest::halt);
        Bench.sentence("K a figure 0 to 7", TermsTest::figureOfMemory);
        Bench.sentence("NN two figures", TermsTest::twoFigures);
        Bench.sentence("all but j, z that goes, c, r, h go on behind them", TermsTest::goesOnBehind);
        Bench.sentence("ACC is modulo 1000, 0 less 1 being 999.", TermsTest::moduloThousand);
        Bench.sentence("A PROCESSOR (0, 1) has an ACC, the CELL at which it goes on, RETURNS", TermsTest::twoProcessors);
        Bench.sentence("RETURNS (6 at most)", TermsTest::sixReturns);
        Bench.sentence("It HALTS, too, by c with 6 RETURNS", TermsTest::haltsByCall);
        Bench.sentence("by r without any", TermsTest::haltsByReturn);
        Bench.sentence("by these and h it stays at their CELL, a STEP it is all the same", TermsTest::staysAtItsCell);
        Bench.sentence("and where no INSTRUCTION begins (that is no STEP)", TermsTest::haltsWhereNoneBegins);
        Bench.sentence("THE TEXT is letters (200 at most).", TermsTest::twoHundredLetters);
        Bench.sentence("As CODE it is INSTRUCTIONS alone.", TermsTest::instructionsAlone);
        Bench.sentence("FAULT: the place (from 0 on) of the first letter of the first INSTRUCTION that is not so",
            TermsTest::firstThatIsNotSo);
        Bench.sentence("(or by which there are more than 60 CELLS)", TermsTest::firstBeyondSixty);
        Bench.sentence("if all are so, of the first j, z or c that goes to a CELL where none begins",
            TermsTest::firstThatGoesAstray);
        Bench.sentence("LAID is a TEXT without FAULT that is not empty (NO else; at first l0z13c14s0j00hl1p2s1l0dr).",
            TermsTest::laidIsWithoutFault);
        Bench.end();
    }

    /** ACC behind one STEP of that CODE, from an ACC, with M 3 as told. */
    private static int accBehind(String code, int acc, int m3) {
        Subject x = Bench.laid(code);
        if (m3 != 0) {
            Bench.due("poke", x.poke(3, m3), 0);
        }
        Bench.due("start", x.start(0, 0, acc), 0);
        Bench.due("ever", x.ever(0, 1, 1), x.step(0, 1) == 1 ? x.processor(0, 1) : NONE);
        return x.processor(0, 1);
    }

    private static void faultIs(String code, int want) {
        Subject x = Bench.said(code);
        Bench.due("fault of " + code, x.fault(), want);
        boolean sound = want == NONE && !code.isEmpty();
        Bench.due("lay of " + code, x.lay(), sound ? code.length() : NO);
        Bench.due("cells", x.count(0), sound ? code.length() : FIRST.length());
    }

    private static void memoryIsEightNumbers() {
        Subject x = new Subject();
        for (int k = 0; k < 8; k++) {
            Bench.due("memory", x.memory(k), 0);
            Bench.due("the most", x.poke(k, 999 - k), 0);
        }
        for (int k = 0; k < 8; k++) {
            Bench.due("memory", x.memory(k), 999 - k);
        }
        Bench.due("none below", x.memory(-1), BAD);
        Bench.due("none above", x.memory(8), BAD);
        Bench.due("none below", x.poke(-1, 5), BAD);
        Bench.due("none above", x.poke(8, 5), BAD);
        Bench.due("too large", x.poke(1, 1000), BAD);
        Bench.due("too small", x.poke(1, -1), BAD);
        Bench.due("the least", x.poke(0, 0), 999);
        Bench.due("memory", x.memory(0), 0);
        Bench.due("another", x.memory(1), 998);
        Bench.due("another", x.memory(7), 992);
    }

    private static void sixtyCells() {
        Subject x = Bench.laid("i".repeat(60));
        Bench.due("cells", x.count(0), 60);
        Bench.due("instructions", x.count(1), 60);
        Bench.due("the last", x.code(59, 1), 'i');
        Bench.due("behind it", x.code(60, 1), BAD);
        Bench.due("the last", x.probe(0, 59), 0);
        Bench.due("behind it", x.probe(0, 60), BAD);
        Bench.due("the last", x.start(1, 59, 0), 0);
        Bench.due("behind it", x.start(1, 60, 0), BAD);
        Bench.due("all of them", x.step(0, 60), 60);
        Bench.isAt(x, 0, 60, 60, 0, 0);
        Bench.due("the 61st", x.write('i'), 61);
        Bench.due("one too many", x.lay(), NO);
        Bench.due("cells", x.count(0), 60);

        x = Bench.laid("h");
        Bench.due("cells", x.count(0), 1);
        Bench.due("the only one", x.code(0, 0), 'h');
        Bench.due("behind it", x.code(1, 0), BAD);
        Bench.due("ahead of it", x.code(-1, 0), BAD);

        x = Bench.laid("i".repeat(57) + "c57");
        Bench.due("a target of its own", x.step(0, 60), 60);
        Bench.isAt(x, 0, 57, 57, 3, 0);
        Bench.due("return", x.returns(0, 2, 1), 60);
        Bench.due("a figure is no beginning", x.probe(0, 58), NO);
        Bench.due("a figure is no beginning", x.probe(0, 59), NO);
    }

    private static void oneBehindTheOther() {
        String code = "idrhl0s1p2j00z01c02";
        Subject x = Bench.laid(code);
        Bench.due("instructions", x.count(1), 10);
        String begins = "idrhl.s.p.j..z..c..";
        for (int cell = 0; cell < code.length(); cell++) {
            Bench.due("code", x.code(cell, 1), code.charAt(cell));
            Bench.due("begins at " + cell, x.start(0, cell, 0), begins.charAt(cell) == '.' ? NO : 0);
        }
    }

    private static void oneMore() {
        Bench.due("i", accBehind("i", 0, 0), 1);
        Bench.due("i", accBehind("i", 998, 0), 999);
        Bench.due("i", accBehind("i", 999, 0), 0);
    }

    private static void oneLess() {
        Bench.due("d", accBehind("d", 999, 0), 998);
        Bench.due("d", accBehind("d", 1, 0), 0);
        Bench.due("d", accBehind("d", 0, 0), 999);
    }

    private static Subject withEightNumbers(String code) {
        Subject x = Bench.laid(code);
        for (int k = 0; k < 8; k++) {
            Bench.due("poke", x.poke(k, 100 + k), 0);
        }
        return x;
    }

    private static void load() {
        for (int k = 0; k < 8; k++) {
            Subject x = withEightNumbers("l" + k);
            Bench.due("l" + k, x.step(1, 1), 1);
            Bench.isAt(x, 1, 2, 100 + k, 0, 0);
            Bench.due("it stays", x.memory(k), 100 + k);
        }
        Bench.due("the most", accBehind("l3", 5, 999), 999);
        Bench.due("the least", accBehind("l3", 5, 0), 0);
    }

    private static void store() {
        for (int k = 0; k < 8; k++) {
            Subject x = withEightNumbers("s" + k);
            Bench.due("start", x.start(0, 0, 999), 0);
            Bench.due("s" + k, x.step(0, 1), 1);
            Bench.isAt(x, 0, 2, 999, 0, 0);
            for (int other = 0; other < 8; other++) {
                Bench.due("memory", x.memory(other), other == k ? 999 : 100 + other);
            }
        }
        Subject x = withEightNumbers("s7");
        Bench.due("s7", x.step(0, 1), 1);
        Bench.due("the least", x.memory(7), 0);
    }

    private static void together() {
        Bench.due("p", accBehind("p3", 0, 0), 0);
        Bench.due("p", accBehind("p3", 998, 1), 999);
        Bench.due("p", accBehind("p3", 999, 1), 0);
        Bench.due("p", accBehind("p3", 1, 999), 0);
        Bench.due("p", accBehind("p3", 999, 0), 999);
        Bench.due("p", accBehind("p3", 999, 999), 998);
        for (int k = 0; k < 8; k++) {
            Subject x = withEightNumbers("p" + k);
            Bench.due("start", x.start(0, 0, 20), 0);
            Bench.due("p" + k, x.step(0, 1), 1);
            Bench.isAt(x, 0, 2, 120 + k, 0, 0);
            Bench.due("it stays", x.memory(k), 100 + k);
        }
    }

    private static void goesTo(String code, int from, int acc, int to) {
        Subject x = Bench.laid(code);
        Bench.due("start", x.start(0, from, acc), 0);
        Bench.due("step", x.step(0, 1), 1);
        Bench.isAt(x, 0, to, acc, 0, 0);
    }

    private static void jump() {
        goesTo("j00", 0, 5, 0);
        goesTo("j03h", 0, 0, 3);
        goesTo("ij00", 1, 999, 0);
        goesTo("j59" + "i".repeat(57), 0, 5, 59);
        goesTo("i".repeat(57) + "j09", 57, 5, 9);
        goesTo("i".repeat(57) + "j10", 57, 5, 10);
    }

    private static void jumpIfZero() {
        goesTo("iz00", 1, 0, 0);
        goesTo("iz00", 1, 1, 4);
        goesTo("iz00", 1, 999, 4);
        goesTo("z59" + "i".repeat(57), 0, 0, 59);
        goesTo("z59" + "i".repeat(57), 0, 1, 3);
    }

    private static void call() {
        Subject x = Bench.laid("c06hhhc03");
        Bench.due("c", x.step(0, 1), 1);
        Bench.isAt(x, 0, 6, 0, 1, 0);
        Bench.due("behind it", x.returns(0, 0, 1), 3);
        Bench.due("c", x.step(0, 1), 1);
        Bench.isAt(x, 0, 3, 0, 2, 0);
        Bench.due("the lower one", x.returns(0, 0, 1), 3);
        Bench.due("on top: behind all", x.returns(0, 1, 1), 9);
        Bench.due("of the other", x.processor(1, 2), 0);
    }

    private static void giveBack() {
        Subject x = Bench.laid("c04hc08rdr");
        Bench.due("step", x.step(0, 3), 3);
        Bench.isAt(x, 0, 9, 999, 2, 0);
        Bench.due("r", x.step(0, 1), 1);
        Bench.isAt(x, 0, 7, 999, 1, 0);
        Bench.due("taken off", x.returns(0, 1, 1), NONE);
        Bench.due("the lower one", x.returns(0, 0, 1), 3);
        Bench.due("r", x.step(0, 1), 1);
        Bench.isAt(x, 0, 3, 999, 0, 0);
        Bench.due("taken off", x.returns(0, 0, 1), NONE);
        // All six, the top one first.
        x = Bench.laid("c04hc08rc12rc16rc20rc24rr");
        Bench.due("six calls", x.step(0, 6), 6);
        Bench.isAt(x, 0, 24, 0, 6, 0);
        int[] backs = {23, 19, 15, 11, 7, 3};
        for (int i = 0; i < 6; i++) {
            Bench.due("r", x.step(0, 1), 1);
            Bench.isAt(x, 0, backs[i], 0, 5 - i, 0);
        }
    }

    private static void halt() {
        Subject x = Bench.laid("ih");
        Bench.due("i", x.step(0, 1), 1);
        Bench.isAt(x, 0, 1, 1, 0, 0);
        Bench.due("h", x.step(0, 60), 1);
        Bench.isAt(x, 0, 1, 1, 0, 1);
        Bench.isAt(x, 1, 0, 0, 0, 0);
    }

    private static void figureOfMemory() {
        for (char sign = 32; sign <= 126; sign++) {
            for (String letter : new String[] {"l", "s", "p"}) {
                faultIs(letter + sign, sign >= '0' && sign <= '7' ? NONE : 0);
            }
        }
        faultIs("l", 0);
        faultIs("is", 1);
        faultIs("p0p", 2);
    }

    private static void twoFigures() {
        for (char sign = 32; sign <= 126; sign++) {
            for (String letter : new String[] {"j", "z", "c"}) {
                faultIs(letter + "0" + sign, sign == '0' ? NONE : 0);
                faultIs(letter + sign + "0", sign == '0' ? NONE : 0);
                // Whether a sign is a figure shows by what comes behind: what is not so comes first.
                faultIs(letter + "0" + sign + "x", sign >= '0' && sign <= '9' ? 3 : 0);
                faultIs(letter + sign + "0x", sign >= '0' && sign <= '9' ? 3 : 0);
            }
        }
        faultIs("j", 0);
        faultIs("z0", 0);
        faultIs("ic0", 1);
        faultIs("c00c0", 3);
    }

    private static void goesOnBehind() {
        String[] all = {"i", "d", "l0", "s0", "p0", "z00"};
        for (String one : all) {
            Subject x = Bench.laid("i" + one + "h");
            Bench.due("start", x.start(0, 1, 5), 0);
            Bench.due("step", x.step(0, 1), 1);
            Bench.due("behind " + one, x.processor(0, 0), 1 + one.length());
            Bench.due("it goes on", x.step(0, 1), 1);
            Bench.due("HALTED there", x.processor(0, 0), 1 + one.length());
        }
    }

    private static void moduloThousand() {
        Subject x = Bench.laid("ids0h");
        Bench.due("start", x.start(0, 0, 999), 0);
        Bench.due("999 and 1", x.step(0, 1), 1);
        Bench.due("acc", x.processor(0, 1), 0);
        Bench.due("0 less 1", x.step(0, 1), 1);
        Bench.due("acc", x.processor(0, 1), 999);
        Bench.due("s0", x.step(0, 1), 1);
        Bench.due("memory", x.memory(0), 999);
        Bench.due("ever", x.ever(1, 1, 1), 1);
        Bench.due("ever", x.ever(1, 2, 1), 0);
    }

    private static void twoProcessors() {
        Subject x = Bench.laid("c03is0r");
        Bench.due("none below", x.processor(-1, 0), BAD);
        Bench.due("none above", x.processor(2, 0), BAD);
        Bench.due("step", x.step(0, 2), 2);
        Bench.isAt(x, 0, 4, 1, 1, 0);
        Bench.isAt(x, 1, 0, 0, 0, 0);
        Bench.due("start", x.start(1, 3, 7), 0);
        Bench.due("step", x.step(1, 2), 2);
        Bench.isAt(x, 0, 4, 1, 1, 0);
        Bench.isAt(x, 1, 6, 8, 0, 0);
        Bench.due("one memory", x.memory(0), 8);
        Bench.due("it HALTS", x.step(1, 60), 1);
        Bench.isAt(x, 0, 4, 1, 1, 0);
        Bench.isAt(x, 1, 6, 8, 0, 1);
        Bench.due("by itself", x.step(0, 2), 2);
        Bench.due("one memory", x.memory(0), 1);
    }

    private static void sixReturns() {
        Subject x = Bench.laid("ic00");
        for (int calls = 1; calls <= 6; calls++) {
            Bench.due("ic00", x.step(0, 2), 2);
            Bench.isAt(x, 0, 0, calls, calls, 0);
            Bench.due("the top", x.returns(0, calls - 1, 1), 4);
            Bench.due("no more", x.returns(0, calls, 1), NONE);
        }
        Bench.due("ever", x.ever(0, 2, 2), 6);
    }

    private static void haltsByCall() {
        Subject x = Bench.laid("c00");
        Bench.due("five", x.step(0, 5), 5);
        Bench.due("the sixth", x.step(0, 1), 1);
        Bench.isAt(x, 0, 0, 0, 6, 0);
        Bench.due("the seventh, as ever", x.ever(0, 1, 3), 1);
        Bench.due("the seventh", x.step(0, 60), 1);
        Bench.isAt(x, 0, 0, 0, 6, 1);
        Bench.due("no more", x.step(0, 1), NO);
        Bench.due("of the other", x.step(1, 60), 7);
    }

    private static void haltsByReturn() {
        Subject x = Bench.laid("c03r");
        Bench.due("r with one", x.step(0, 2), 2);
        Bench.isAt(x, 0, 3, 0, 0, 0);
        Bench.due("r without, as ever", x.ever(0, 1, 3), 1);
        Bench.due("r without", x.step(0, 60), 1);
        Bench.isAt(x, 0, 3, 0, 0, 1);
        Bench.due("no more", x.step(0, 1), NO);
    }

    private static void staysAtItsCell() {
        for (String one : new String[] {"h", "r"}) {
            Subject x = Bench.laid("i" + one + "i");
            Bench.due("with the STEP that HALTS", x.step(0, 60), 2);
            Bench.isAt(x, 0, 1, 1, 0, 1);
            Bench.due("steps", x.processor(0, 4), 2);
            Bench.due("as ever", x.ever(1, 60, 0), 1);
            Bench.due("as ever", x.ever(1, 60, 3), 1);
        }
        Subject x = Bench.laid("ic01");
        Bench.due("with the STEP that HALTS", x.step(0, 60), 8);
        Bench.isAt(x, 0, 1, 1, 6, 1);
        Bench.due("steps", x.processor(0, 4), 8);
        Bench.due("as ever", x.ever(1, 60, 0), 1);
    }

    private static void haltsWhereNoneBegins() {
        Subject x = Bench.laid("il0");
        Bench.due("to the end", x.step(0, 2), 2);
        Bench.isAt(x, 0, 3, 0, 0, 0);
        Bench.due("as ever", x.ever(0, 0, 3), 0);
        Bench.due("as ever", x.ever(0, 1, 3), 1);
        Bench.due("as ever", x.ever(0, 1, 0), 3);
        Bench.due("no STEP", x.step(0, 1), 0);
        Bench.isAt(x, 0, 3, 0, 0, 1);
        Bench.due("steps", x.processor(0, 4), 2);
        Bench.due("no more", x.step(0, 1), NO);
        Bench.due("fewer", x.step(1, 3), 2);
        Bench.isAt(x, 1, 3, 0, 0, 1);
        Bench.due("steps", x.processor(1, 4), 2);

        x = Bench.laid("i".repeat(60));
        Bench.due("to the end", x.step(0, 60), 60);
        Bench.due("no STEP", x.step(0, 60), 0);
        Bench.isAt(x, 0, 60, 60, 0, 1);

        // By a z that goes not, and by an r to behind the last CELL.
        x = Bench.laid("iz00");
        Bench.due("z goes not", x.step(0, 60), 2);
        Bench.isAt(x, 0, 4, 1, 0, 1);
        x = Bench.laid("j04rc03");
        Bench.due("r", x.step(0, 60), 3);
        Bench.isAt(x, 0, 7, 0, 0, 1);
    }

    private static void twoHundredLetters() {
        Subject x = new Subject();
        for (int i = 1; i <= 200; i++) {
            Bench.due("write", x.write(i == 1 ? '0' : '!'), i);
        }
        Bench.due("as a filter", x.asked(0), 1);
        Bench.due("the 201st", x.write('!'), FULL);
        Bench.due("letters", x.count(6), 200);
        Bench.due("as a filter", x.asked(0), 1);
        Bench.due("wipe", x.wipe(), 200);
        Bench.due("the first", x.write('7'), 1);
        Bench.due("as a filter", x.asked(0), 7);
    }

    private static void instructionsAlone() {
        for (char sign = 32; sign <= 126; sign++) {
            faultIs("" + sign, "idrh".indexOf(sign) >= 0 ? NONE : 0);
            faultIs(sign + "0", "lsp".indexOf(sign) >= 0 ? NONE : "idrh".indexOf(sign) >= 0 ? 1 : 0);
            int want = "jzc".indexOf(sign) >= 0 ? NONE : "idrh".indexOf(sign) >= 0 ? 1 : "lsp".indexOf(sign) >= 0 ? 2 : 0;
            faultIs(sign + "00", want);
            faultIs("i" + sign, "idrh".indexOf(sign) >= 0 ? NONE : 1);
        }
        faultIs("", NONE);
        faultIs("i i", 1);
        faultIs("i\u007e", 1);
    }

    private static void firstThatIsNotSo() {
        faultIs("xi", 0);
        faultIs("ixix", 1);
        faultIs("l0s9", 2);
        faultIs("l0j0x", 2);
        faultIs("c00z0", 3);
        faultIs("iiiip8", 4);
        faultIs("i".repeat(59) + "x", 59);
        // It comes ahead of one that goes astray, even of one that stands ahead of it.
        faultIs("j01x", 3);
        faultIs("z99c88l8", 6);
    }

    private static void firstBeyondSixty() {
        String fifty7 = "i".repeat(57);
        faultIs(fifty7 + "iii", NONE);
        faultIs(fifty7 + "iiii", 60);
        faultIs(fifty7 + "is0", NONE);
        faultIs(fifty7 + "iis0", 59);
        faultIs(fifty7 + "iiis0", 60);
        faultIs(fifty7 + "j00", NONE);
        faultIs(fifty7 + "ij00", 58);
        faultIs(fifty7 + "iij00", 59);
        faultIs(fifty7 + "iiij00", 60);
        faultIs("i".repeat(200), 60);
        faultIs("c00".repeat(20), NONE);
        faultIs("c00".repeat(21), 60);
        // One that is not so ahead of it, and behind it; one that goes astray ahead of it.
        faultIs("x" + "i".repeat(60), 0);
        faultIs(fifty7 + "iiiix", 60);
        faultIs("j01" + fifty7 + "i", 60);
        faultIs("j60" + fifty7 + "i", 60);
    }

    private static void firstThatGoesAstray() {
        for (String letter : new String[] {"j", "z", "c"}) {
            faultIs(letter + "00", NONE);
            faultIs(letter + "01", 0);
            faultIs(letter + "02", 0);
            faultIs(letter + "03", 0);
            faultIs(letter + "03h", NONE);
            faultIs(letter + "04h", 0);
            faultIs("l0" + letter + "01", 2);
            faultIs("l0" + letter + "02", NONE);
            faultIs("l0" + letter + "99", 2);
            faultIs("i".repeat(57) + letter + "57", NONE);
            faultIs("i".repeat(57) + letter + "58", 57);
            faultIs("i".repeat(57) + letter + "60", 57);
            faultIs(letter + "59" + "i".repeat(57), NONE);
            faultIs(letter + "60" + "i".repeat(57), 0);
        }
        faultIs("j00z02c01", 3);
        faultIs("j00z03c01", 6);
        faultIs("c06z99j03", 3);
    }

    private static void laidIsWithoutFault() {
        Subject x = new Subject();
        Bench.due("cells", x.count(0), FIRST.length());
        Bench.due("instructions", x.count(1), 12);
        for (int cell = 0; cell < FIRST.length(); cell++) {
            Bench.due("code", x.code(cell, 1), FIRST.charAt(cell));
        }
        Bench.due("empty", x.fault(), NONE);
        Bench.due("empty", x.lay(), NO);
        Bench.say(x, "j01");
        Bench.due("a fault", x.fault(), 0);
        Bench.due("a fault", x.lay(), NO);
        Bench.say(x, "j00x");
        Bench.due("a fault", x.lay(), NO);
        Bench.due("cells", x.count(0), FIRST.length());
        Bench.say(x, "j00");
        Bench.due("none", x.lay(), 3);
        Bench.due("cells", x.count(0), 3);
        x.wipe();
        Bench.due("empty", x.lay(), NO);
        Bench.due("cells", x.count(0), 3);
        faultIs(FIRST, NONE);
    }
}
