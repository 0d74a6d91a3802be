/**
 * Probes laid in running code: see ../shared/DOC.md, whose words (CELL, HELD, DYING ..) are used
 * here as they are there.
 */
public final class CodeProbes {
    public static final int BAD = -1, NO = -2, FULL = -3, NONE = -4;

    private static final String FIRST_CODE = "l0z13c14s0j00hl1p2s1l0dr";
    private static final int MOST_LETTERS = 200;
    private static final int MOST_CELLS = 60;
    private static final int MOST_STEPS = 60;
    private static final int MOST_RETURNS = 6;
    private static final int MOST_HELD_BY_ONE = 3;
    private static final int MOST_IN_RING = 4;
    private static final int MOST_ON_STACK = 4;
    private static final int MOST_UNDONE = 4;
    private static final int NUMBERS = 8;
    private static final int PROBES = 6;
    private static final int MODULUS = 1000;

    private static final int PLAIN = 0, RETURNING = 1;
    private static final int ON = 0, OFF = 1, DYING = 2, GONE = 3;
    private static final int NOBODY = -1;
    private static final int HELD_SHOWS = 99;

    private final Text text = new Text(MOST_LETTERS);
    private final Code laid = new Code();
    private final Code draft = new Code();
    private final State now = new State();
    private final History history = new History();
    private final Stack stack = new Stack();
    private final Processor everProcessor = new Processor();
    private final Memory everMemory = new Memory();

    public CodeProbes() {
        for (int i = 0; i < FIRST_CODE.length(); i++) {
            text.add(FIRST_CODE.charAt(i));
        }
        laid.readFrom(text);
        text.clear();
    }

    // ---- told

    public int write(int letter) {
        if (!within(letter, 32, 126)) {
            return BAD;
        }
        return text.add((char) letter) ? text.length : FULL;
    }

    public int wipe() {
        int was = text.length;
        text.clear();
        return was;
    }

    public int fault() {
        return draft.readFrom(text);
    }

    public int lay() {
        if (text.length == 0 || draft.readFrom(text) != NONE) {
            return NO;
        }
        laid.readFrom(text);
        now.clear();
        history.clear();
        return laid.cells.length;
    }

    // ---- probes

    public int probe(int kind, int cell) {
        if (!within(kind, PLAIN, RETURNING) || !laid.has(cell)) {
            return BAD;
        }
        if (!laid.beginsAt(cell) || now.probeOn(cell) != null) {
            return NO;
        }
        Probe free = now.lowestGone();
        if (free == null) {
            return FULL;
        }
        history.keep(now);
        free.layOn(kind, cell);
        return free.number;
    }

    public int turn(int p, int is) {
        Probe it = now.probeNotGone(p);
        if (it == null || !within(is, 0, 1)) {
            return BAD;
        }
        int wanted = is == 1 ? ON : OFF;
        if (it.is == DYING || it.is == wanted) {
            return NO;
        }
        history.keep(now);
        it.is = wanted;
        return now.howManyAre(ON);
    }

    public int remove(int p) {
        Probe it = now.probeNotGone(p);
        if (it == null) {
            return BAD;
        }
        if (it.is == DYING) {
            return NO;
        }
        history.keep(now);
        it.is = DYING;
        it.goIfNobodyIsInside();
        return it.is == GONE ? 1 : 0;
    }

    public int filter(int p) {
        Probe it = now.probeNotGone(p);
        if (it == null) {
            return BAD;
        }
        // Whether a FILTER is SOUND does not hang on the numbers that it is asked with.
        if (text.length > 0 && stack.ask(text, 0, now.memory) == NO) {
            return NO;
        }
        history.keep(now);
        it.filter = text.length > 0 ? text.copy() : null;
        return text.length;
    }

    // ---- runs

    public int start(int c, int cell, int acc) {
        Processor who = now.processorOrNull(c);
        if (who == null || !laid.has(cell) || !isNumber(acc)) {
            return BAD;
        }
        if (!laid.beginsAt(cell)) {
            return NO;
        }
        history.keep(now);
        int held = now.letGoReturns(who);
        who.goTo(cell, acc);
        return held;
    }

    public int step(int c, int n) {
        Processor who = now.processorOrNull(c);
        if (who == null || !within(n, 1, MOST_STEPS)) {
            return BAD;
        }
        if (who.halted) {
            return NO;
        }
        history.keep(now);
        int before = who.steps;
        for (int i = 0; i < n && !who.halted; i++) {
            stepWithProbes(who);
        }
        return who.steps - before;
    }

    public int poke(int k, int v) {
        if (!now.memory.has(k) || !isNumber(v)) {
            return BAD;
        }
        int was = now.memory.get(k);
        if (was == v) {
            return NO;
        }
        history.keep(now);
        now.memory.put(k, v);
        return was;
    }

    public int undo() {
        if (history.size == 0) {
            return NO;
        }
        history.giveBack(now);
        return history.size;
    }

    // ---- looked at

    public int code(int cell, int real) {
        if (!laid.has(cell) || !within(real, 0, 1)) {
            return BAD;
        }
        boolean broken = real == 0 && now.probeIsOnAt(cell);
        return broken ? '!' : laid.letterAt(cell);
    }

    public int memory(int k) {
        return now.memory.has(k) ? now.memory.get(k) : BAD;
    }

    public int processor(int c, int what) {
        Processor who = now.processorOrNull(c);
        if (who == null) {
            return BAD;
        }
        switch (what) {
            case 4:
                return who.steps;
            case 5:
                return who.ring.size;
            case 6:
                return who.ring.lost;
            default:
                return who.tell(what);
        }
    }

    public int returns(int c, int k, int real) {
        Processor who = now.processorOrNull(c);
        if (who == null || k < 0 || !within(real, 0, 1)) {
            return BAD;
        }
        if (k >= who.depth) {
            return NONE;
        }
        boolean shown = real == 0 && who.holderAt(k) != NOBODY;
        return shown ? HELD_SHOWS : who.returnAt(k);
    }

    public int ring(int c, int k, int what) {
        Processor who = now.processorOrNull(c);
        if (who == null || k < 0 || !within(what, 0, 2)) {
            return BAD;
        }
        return who.ring.tell(k, what);
    }

    public int look(int p, int what) {
        Probe it = now.probeOrNull(p);
        if (it == null || !within(what, 0, 7)) {
            return BAD;
        }
        if (it.is == GONE && what != 0) {
            return NO;
        }
        return it.tell(what);
    }

    public int asked(int acc) {
        return isNumber(acc) ? stack.ask(text, acc, now.memory) : BAD;
    }

    public int ever(int c, int n, int what) {
        Processor who = now.processorOrNull(c);
        if (who == null || !within(n, 0, MOST_STEPS) || !within(what, 0, 4)) {
            return BAD;
        }
        everProcessor.copyFrom(who);
        everMemory.copyFrom(now.memory);
        for (int i = 0; i < n && !everProcessor.halted; i++) {
            if (everProcessor.isAtInstruction(laid)) {
                everProcessor.perform(laid, everMemory);
            }
        }
        return what == 4 ? everMemory.together() : everProcessor.tell(what);
    }

    public int count(int what) {
        switch (what) {
            case 0:
                return laid.cells.length;
            case 1:
                return laid.instructions;
            case 2:
                return now.howManyAre(ON);
            case 3:
                return now.howManyAre(DYING);
            case 4:
                return now.howManyHeld();
            case 5:
                return history.size;
            case 6:
                return text.length;
            default:
                return BAD;
        }
    }

    // ---- a STEP, with the PROBES that lie there

    private void stepWithProbes(Processor who) {
        if (!who.isAtInstruction(laid)) {
            return;
        }
        // Counted ahead, since what a HIT records is the STEP with this one.
        who.steps++;
        Probe lying = now.probeOn(who.cell);
        if (lying != null && lying.is == ON) {
            comeBy(who, lying);
        }
        // Looked at behind comeBy: a RETURNING one on an r holds what this very r takes off.
        int holder = laid.letterAt(who.cell) == 'r' ? who.topHolder() : NOBODY;
        who.perform(laid, now.memory);
        Probe leaving = now.probeOrNull(holder);
        if (leaving != null) {
            leave(who, leaving);
        }
    }

    private void comeBy(Processor who, Probe it) {
        if (it.kind == PLAIN) {
            hit(who, it);
        } else if (it.holds >= MOST_HELD_BY_ONE || !who.holdTop(it.number)) {
            it.missed++;
        } else {
            it.holds++;
        }
    }

    private void leave(Processor who, Probe it) {
        it.holds--;
        if (it.is == ON) {
            hit(who, it);
        }
        it.goIfNobodyIsInside();
    }

    private void hit(Processor who, Probe it) {
        it.hits++;
        if (it.filter != null && stack.ask(it.filter, who.acc, now.memory) == 0) {
            it.filtered++;
        } else {
            who.ring.enter(it.number, who.acc, who.steps);
        }
    }

    // ---- numbers and letters

    private static boolean within(int number, int least, int most) {
        return number >= least && number <= most;
    }

    private static boolean isNumber(int number) {
        return within(number, 0, MODULUS - 1);
    }

    /** How many CELLS an INSTRUCTION that begins with this letter has, 0 if none does. */
    private static int widthOf(char letter) {
        switch (letter) {
            case 'i': case 'd': case 'r': case 'h':
                return 1;
            case 'l': case 's': case 'p':
                return 2;
            case 'j': case 'z': case 'c':
                return 3;
            default:
                return 0;
        }
    }

    /** Letters one behind the other: THE TEXT, the CELLS of CODE, a FILTER. */
    private static final class Text {
        final char[] letters;
        int length;

        Text(int room) {
            letters = new char[Math.max(0, room)];
        }

        boolean add(char letter) {
            if (length < 0 || length >= letters.length) {
                return false;
            }
            letters[length] = letter;
            length++;
            return true;
        }

        void clear() {
            length = 0;
        }

        /** A sign that nothing takes for a letter stands wherever there is none. */
        char at(int place) {
            return place >= 0 && place < length && place < letters.length ? letters[place] : 0;
        }

        int figureAt(int place) {
            char letter = at(place);
            return letter >= '0' && letter <= '9' ? letter - '0' : NONE;
        }

        Text copy() {
            Text other = new Text(length);
            for (int i = 0; i < length; i++) {
                other.add(at(i));
            }
            return other;
        }
    }

    /** INSTRUCTIONS one behind the other, and where they begin. */
    private static final class Code {
        final Text cells = new Text(MOST_CELLS);
        final boolean[] begins = new boolean[MOST_CELLS];
        int instructions;

        /** The place of the FAULT, NONE if there is none: then alone this is CODE to be run. */
        int readFrom(Text told) {
            cells.clear();
            for (int cell = 0; cell < begins.length; cell++) {
                begins[cell] = false;
            }
            instructions = 0;
            int place = 0;
            while (place < told.length) {
                int width = widthAt(told, place);
                if (width <= 0 || place + width > MOST_CELLS) {
                    return place;
                }
                take(told, place, width);
                place += width;
            }
            return firstAstray();
        }

        private void take(Text told, int place, int width) {
            if (place >= 0 && place < begins.length) {
                begins[place] = true;
            }
            for (int i = 0; i < width; i++) {
                cells.add(told.at(place + i));
            }
            instructions++;
        }

        private int firstAstray() {
            for (int cell = 0; cell < cells.length; cell++) {
                boolean goes = beginsAt(cell) && widthOf(letterAt(cell)) == 3;
                if (goes && !beginsAt(numberAt(cell))) {
                    return cell;
                }
            }
            return NONE;
        }

        private static int widthAt(Text told, int place) {
            int width = widthOf(told.at(place));
            if (width == 2) {
                return within(told.figureAt(place + 1), 0, NUMBERS - 1) ? 2 : 0;
            }
            if (width == 3) {
                boolean whole = told.figureAt(place + 1) != NONE && told.figureAt(place + 2) != NONE;
                return whole ? 3 : 0;
            }
            return width;
        }

        boolean has(int cell) {
            return cell >= 0 && cell < cells.length;
        }

        boolean beginsAt(int cell) {
            return has(cell) && cell < begins.length && begins[cell];
        }

        char letterAt(int cell) {
            return cells.at(cell);
        }

        /** The K or NN of the INSTRUCTION that begins there, NONE if it has none. */
        int numberAt(int cell) {
            switch (widthOf(letterAt(cell))) {
                case 2:
                    return cells.figureAt(cell + 1);
                case 3:
                    return 10 * cells.figureAt(cell + 1) + cells.figureAt(cell + 2);
                default:
                    return NONE;
            }
        }
    }

    private static final class Memory {
        final int[] numbers = new int[NUMBERS];

        boolean has(int k) {
            return k >= 0 && k < numbers.length;
        }

        int get(int k) {
            return has(k) ? numbers[k] : 0;
        }

        void put(int k, int value) {
            if (has(k)) {
                numbers[k] = value;
            }
        }

        int together() {
            int sum = 0;
            for (int k = 0; k < numbers.length; k++) {
                sum += numbers[k];
            }
            return sum;
        }

        void clear() {
            for (int k = 0; k < numbers.length; k++) {
                numbers[k] = 0;
            }
        }

        void copyFrom(Memory other) {
            System.arraycopy(other.numbers, 0, numbers, 0, NUMBERS);
        }
    }

    /** What was recorded last, the oldest first. */
    private static final class Ring {
        final int[] probes = new int[MOST_IN_RING];
        final int[] accs = new int[MOST_IN_RING];
        final int[] steps = new int[MOST_IN_RING];
        int size;
        int lost;

        void enter(int number, int acc, int step) {
            if (size >= MOST_IN_RING) {
                loseOldest();
            }
            if (size >= 0 && size < MOST_IN_RING) {
                probes[size] = number;
                accs[size] = acc;
                steps[size] = step;
                size++;
            }
        }

        private void loseOldest() {
            for (int i = 1; i < MOST_IN_RING; i++) {
                probes[i - 1] = probes[i];
                accs[i - 1] = accs[i];
                steps[i - 1] = steps[i];
            }
            size = MOST_IN_RING - 1;
            lost++;
        }

        int tell(int k, int what) {
            if (k < 0 || k >= size || k >= MOST_IN_RING) {
                return NONE;
            }
            switch (what) {
                case 0:
                    return probes[k];
                case 1:
                    return accs[k];
                case 2:
                    return steps[k];
                default:
                    return BAD;
            }
        }

        void clear() {
            size = 0;
            lost = 0;
        }

        void copyFrom(Ring other) {
            System.arraycopy(other.probes, 0, probes, 0, MOST_IN_RING);
            System.arraycopy(other.accs, 0, accs, 0, MOST_IN_RING);
            System.arraycopy(other.steps, 0, steps, 0, MOST_IN_RING);
            size = other.size;
            lost = other.lost;
        }
    }

    private static final class Processor {
        final int[] backs = new int[MOST_RETURNS];
        final int[] holders = new int[MOST_RETURNS];
        final Ring ring = new Ring();
        int depth;
        int cell;
        int acc;
        boolean halted;
        int steps;

        /** HALTS where no INSTRUCTION begins: only now, as it would go on there, not on arrival. */
        boolean isAtInstruction(Code code) {
            if (!code.beginsAt(cell)) {
                halted = true;
            }
            return !halted;
        }

        /** The INSTRUCTION as told, whether a PROBE lies there or not. */
        void perform(Code code, Memory memory) {
            char letter = code.letterAt(cell);
            int number = code.numberAt(cell);
            reckon(letter, number, memory);
            cell = goingOn(letter, number);
        }

        private void reckon(char letter, int number, Memory memory) {
            switch (letter) {
                case 'i':
                    acc = (acc + 1) % MODULUS;
                    break;
                case 'd':
                    acc = (acc + MODULUS - 1) % MODULUS;
                    break;
                case 'l':
                    acc = memory.get(number);
                    break;
                case 's':
                    memory.put(number, acc);
                    break;
                case 'p':
                    acc = (acc + memory.get(number)) % MODULUS;
                    break;
                default:
                    break;
            }
        }

        private int goingOn(char letter, int number) {
            int behind = cell + widthOf(letter);
            switch (letter) {
                case 'j':
                    return number;
                case 'z':
                    return acc == 0 ? number : behind;
                case 'c':
                    return called(number, behind);
                case 'r':
                    return returned();
                case 'h':
                    halted = true;
                    return cell;
                default:
                    return behind;
            }
        }

        private int called(int number, int behind) {
            if (depth < 0 || depth >= MOST_RETURNS) {
                halted = true;
                return cell;
            }
            backs[depth] = behind;
            holders[depth] = NOBODY;
            depth++;
            return number;
        }

        private int returned() {
            if (depth <= 0 || depth > MOST_RETURNS) {
                halted = true;
                return cell;
            }
            depth--;
            return backs[depth];
        }

        int returnAt(int k) {
            return k >= 0 && k < depth && k < MOST_RETURNS ? backs[k] : NONE;
        }

        int holderAt(int k) {
            return k >= 0 && k < depth && k < MOST_RETURNS ? holders[k] : NOBODY;
        }

        int topHolder() {
            return holderAt(depth - 1);
        }

        /** Whether the top one of RETURNS could be, and so is, HELD by that PROBE. */
        boolean holdTop(int number) {
            int top = depth - 1;
            if (top < 0 || top >= MOST_RETURNS || holders[top] != NOBODY) {
                return false;
            }
            holders[top] = number;
            return true;
        }

        void goTo(int newCell, int newAcc) {
            cell = newCell;
            acc = newAcc;
            depth = 0;
            halted = false;
        }

        /** What is asked AS EVER, too: all that does not hang on PROBES. */
        int tell(int what) {
            switch (what) {
                case 0:
                    return cell;
                case 1:
                    return acc;
                case 2:
                    return depth;
                case 3:
                    return halted ? 1 : 0;
                default:
                    return BAD;
            }
        }

        void clear() {
            goTo(0, 0);
            steps = 0;
            ring.clear();
        }

        void copyFrom(Processor other) {
            System.arraycopy(other.backs, 0, backs, 0, MOST_RETURNS);
            System.arraycopy(other.holders, 0, holders, 0, MOST_RETURNS);
            ring.copyFrom(other.ring);
            depth = other.depth;
            cell = other.cell;
            acc = other.acc;
            halted = other.halted;
            steps = other.steps;
        }
    }

    private static final class Probe {
        final int number;
        int is = GONE;
        int kind;
        int cell;
        int hits;
        int filtered;
        int missed;
        int holds;
        /** Null if there is none; its letters never change, so that copies may share it. */
        Text filter;

        Probe(int number) {
            this.number = number;
        }

        void layOn(int newKind, int newCell) {
            is = ON;
            kind = newKind;
            cell = newCell;
            hits = 0;
            filtered = 0;
            missed = 0;
            holds = 0;
            filter = null;
        }

        void goIfNobodyIsInside() {
            if (is == DYING && holds <= 0) {
                is = GONE;
            }
        }

        int tell(int what) {
            switch (what) {
                case 0:
                    return is;
                case 1:
                    return kind;
                case 2:
                    return cell;
                case 3:
                    return hits;
                case 4:
                    return filtered;
                case 5:
                    return missed;
                case 6:
                    return holds;
                case 7:
                    return filter == null ? 0 : filter.length;
                default:
                    return BAD;
            }
        }

        void copyFrom(Probe other) {
            is = other.is;
            kind = other.kind;
            cell = other.cell;
            hits = other.hits;
            filtered = other.filtered;
            missed = other.missed;
            holds = other.holds;
            filter = other.filter;
        }
    }

    /** All that a change can change, and that is given back when it is UNDONE. */
    private static final class State {
        final Memory memory = new Memory();
        final Processor first = new Processor();
        final Processor second = new Processor();
        final Probe[] probes = new Probe[PROBES];

        State() {
            for (int p = 0; p < PROBES; p++) {
                probes[p] = new Probe(p);
            }
        }

        Processor processorOrNull(int c) {
            if (c == 0) {
                return first;
            }
            return c == 1 ? second : null;
        }

        Probe probeOrNull(int p) {
            return p >= 0 && p < probes.length ? probes[p] : null;
        }

        Probe probeNotGone(int p) {
            Probe it = probeOrNull(p);
            return it == null || it.is == GONE ? null : it;
        }

        /** The PROBE that lies there, ON, OFF or DYING; null if none does. */
        Probe probeOn(int cell) {
            for (int p = 0; p < PROBES; p++) {
                Probe it = probeNotGone(p);
                if (it != null && it.cell == cell) {
                    return it;
                }
            }
            return null;
        }

        boolean probeIsOnAt(int cell) {
            Probe it = probeOn(cell);
            return it != null && it.is == ON;
        }

        Probe lowestGone() {
            for (int p = 0; p < PROBES; p++) {
                if (probeNotGone(p) == null) {
                    return probeOrNull(p);
                }
            }
            return null;
        }

        int howManyAre(int is) {
            int many = 0;
            for (int p = 0; p < PROBES; p++) {
                Probe it = probeOrNull(p);
                if (it != null && it.is == is) {
                    many++;
                }
            }
            return many;
        }

        int howManyHeld() {
            int many = 0;
            for (int p = 0; p < PROBES; p++) {
                Probe it = probeNotGone(p);
                if (it != null) {
                    many += it.holds;
                }
            }
            return many;
        }

        /** No PROBE is HIT by this: nothing returns. Answers how many were HELD. */
        int letGoReturns(Processor who) {
            int held = 0;
            for (int k = 0; k < who.depth; k++) {
                Probe it = probeOrNull(who.holderAt(k));
                if (it != null) {
                    held++;
                    it.holds--;
                    it.goIfNobodyIsInside();
                }
            }
            return held;
        }

        void clear() {
            memory.clear();
            first.clear();
            second.clear();
            for (int p = 0; p < PROBES; p++) {
                Probe it = probeOrNull(p);
                if (it != null) {
                    it.is = GONE;
                }
            }
        }

        void copyFrom(State other) {
            memory.copyFrom(other.memory);
            first.copyFrom(other.first);
            second.copyFrom(other.second);
            for (int p = 0; p < PROBES; p++) {
                Probe mine = probeOrNull(p);
                Probe its = other.probeOrNull(p);
                if (mine != null && its != null) {
                    mine.copyFrom(its);
                }
            }
        }
    }

    /** How things stood ahead of the latest changes; its rows are used again, the oldest first. */
    private static final class History {
        final State[] kept = new State[MOST_UNDONE];
        int latest;
        int size;

        History() {
            for (int i = 0; i < MOST_UNDONE; i++) {
                kept[i] = new State();
            }
        }

        void keep(State now) {
            latest = Math.floorMod(latest + 1, MOST_UNDONE);
            State row = kept[latest];
            if (row != null) {
                row.copyFrom(now);
            }
            size = Math.min(size + 1, MOST_UNDONE);
        }

        void giveBack(State now) {
            int place = Math.floorMod(latest, MOST_UNDONE);
            State row = kept[place];
            if (size > 0 && row != null) {
                now.copyFrom(row);
                latest = Math.floorMod(latest - 1, MOST_UNDONE);
                size--;
            }
        }

        void clear() {
            size = 0;
        }
    }

    /** The STACK on which a FILTER is looked at and asked. */
    private static final class Stack {
        final int[] numbers = new int[MOST_ON_STACK];
        int height;

        /** What the FILTER is (0 to 999), NO if it is not SOUND: an empty one is not. */
        int ask(Text filter, int acc, Memory memory) {
            height = 0;
            int place = 0;
            while (place < filter.length) {
                char letter = filter.at(place);
                int figure = filter.figureAt(letter == 'm' ? place + 1 : place);
                boolean sound;
                if (letter == 'm') {
                    sound = memory.has(figure) && put(memory.get(figure));
                } else if (letter == 'a' || figure != NONE) {
                    sound = put(letter == 'a' ? acc : figure);
                } else {
                    sound = letter == '!' ? turnTop() : join(letter);
                }
                if (!sound) {
                    return NO;
                }
                place += letter == 'm' ? 2 : 1;
            }
            return height == 1 ? numbers[0] : NO;
        }

        private boolean put(int number) {
            if (height < 0 || height >= MOST_ON_STACK) {
                return false;
            }
            numbers[height] = number;
            height++;
            return true;
        }

        private boolean turnTop() {
            int top = height - 1;
            if (top < 0 || top >= MOST_ON_STACK) {
                return false;
            }
            numbers[top] = numbers[top] == 0 ? 1 : 0;
            return true;
        }

        private boolean join(char sign) {
            int top = height - 1;
            if (top < 1 || top >= MOST_ON_STACK) {
                return false;
            }
            int joined = joined(sign, numbers[top - 1], numbers[top]);
            if (joined == NONE) {
                return false;
            }
            numbers[top - 1] = joined;
            height--;
            return true;
        }

        /** NONE if the sign joins nothing; x and y are 0 to 999. */
        private static int joined(char sign, int x, int y) {
            switch (sign) {
                case '+':
                    return (x + y) % MODULUS;
                case '-':
                    return (x + MODULUS - y) % MODULUS;
                case '*':
                    return x * y % MODULUS;
                case '<':
                    return x < y ? 1 : 0;
                case '=':
                    return x == y ? 1 : 0;
                case '&':
                    return x != 0 && y != 0 ? 1 : 0;
                case '|':
                    return x != 0 || y != 0 ? 1 : 0;
                default:
                    return NONE;
            }
        }
    }
}
