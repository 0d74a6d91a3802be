import java.io.IOException;
import java.io.UncheckedIOException;
import java.nio.file.Files;
import java.nio.file.Path;
import java.util.ArrayList;
import java.util.List;
import java.util.function.Consumer;
import java.util.function.ToIntFunction;

/** What the tests of the document's sentences have in common. */
final class Bench {
    static final int BAD = -1, NO = -2, FULL = -3, NONE = -4;
    static final int ON = 0, OFF = 1, DYING = 2, GONE = 3;
    static final int PLAIN = 0, RETURNING = 1;
    static final int LOW = Integer.MIN_VALUE, HIGH = Integer.MAX_VALUE;

    private static final String DOCUMENT = document();

    private static String sentence = "";
    private static int sentences = 0;
    private static int looked = 0;
    private static int wrong = 0;

    private Bench() {
    }

    private static String document() {
        try {
            return plain(Files.readString(Path.of(System.getProperty("document", "../shared/DOC.md"))));
        } catch (IOException fault) {
            throw new UncheckedIOException(fault);
        }
    }

    private static String plain(String words) {
        return words.replaceAll("\\s+", " ").trim();
    }

    /** A test for one sentence, which must stand in the document with these words. */
    static void sentence(String words, Runnable test) {
        sentence = words;
        sentences++;
        if (!DOCUMENT.contains(plain(words))) {
            tellWrong("the document does not say so");
        }
        int before = looked;
        test.run();
        if (looked == before) {
            tellWrong("nothing is looked at");
        }
    }

    static void end() {
        System.out.println(sentences + " sentences, " + looked + " answers looked at, " + wrong + " wrong");
        if (wrong != 0) {
            System.exit(1);
        }
    }

    private static void tellWrong(String what) {
        wrong++;
        if (wrong <= 40) {
            System.out.println("\"" + sentence + "\": " + what);
        }
    }

    static void due(String call, int got, int want) {
        looked++;
        if (got != want) {
            tellWrong(call + " answered " + got + ", due is " + want);
        }
    }

    /** THE TEXT is these letters alone. */
    static void say(Subject x, String letters) {
        x.wipe();
        for (int i = 0; i < letters.length(); i++) {
            x.write(letters.charAt(i));
        }
    }

    static Subject said(String letters) {
        Subject x = new Subject();
        say(x, letters);
        due("letters of " + letters, x.count(6), letters.length());
        return x;
    }

    static Subject laid(String letters) {
        Subject x = said(letters);
        due("lay of " + letters, x.lay(), letters.length());
        return x;
    }

    /** A FILTER is given to a PROBE. */
    static void give(Subject x, int p, String letters) {
        say(x, letters);
        due("filter(" + p + ") of " + letters, x.filter(p), letters.length());
    }

    static void isAt(Subject x, int c, int cell, int acc, int returns, int halted) {
        due("the cell of " + c, x.processor(c, 0), cell);
        due("the acc of " + c, x.processor(c, 1), acc);
        due("the returns of " + c, x.processor(c, 2), returns);
        due("halted, of " + c, x.processor(c, 3), halted);
    }

    static void rings(Subject x, int c, int k, int probe, int acc, int step) {
        due("ring(" + c + ", " + k + ", 0)", x.ring(c, k, 0), probe);
        due("ring(" + c + ", " + k + ", 1)", x.ring(c, k, 1), acc);
        due("ring(" + c + ", " + k + ", 2)", x.ring(c, k, 2), step);
    }

    static void counts(Subject x, int p, int hits, int filtered, int missed, int holds) {
        due("hits of " + p, x.look(p, 3), hits);
        due("filtered of " + p, x.look(p, 4), filtered);
        due("missed of " + p, x.look(p, 5), missed);
        due("holds of " + p, x.look(p, 6), holds);
    }

    /** Every answer of the calls that look and change nothing, in some 290 calls. */
    static List<String> views(Subject x) {
        List<String> all = new ArrayList<>();
        for (int cell = 0; cell <= 60; cell++) {
            all.add("code " + cell + ": " + x.code(cell, 0) + " " + x.code(cell, 1));
        }
        for (int k = 0; k < 8; k++) {
            all.add("memory " + k + ": " + x.memory(k));
        }
        for (int c = 0; c < 2; c++) {
            viewsOfProcessor(all, x, c);
        }
        for (int p = 0; p < 6; p++) {
            for (int what = 0; what < 8; what++) {
                all.add("look " + p + " " + what + ": " + x.look(p, what));
            }
        }
        for (int what = 0; what < 7; what++) {
            all.add("count " + what + ": " + x.count(what));
        }
        all.add("fault: " + x.fault());
        all.add("asked: " + x.asked(0) + " " + x.asked(7));
        return all;
    }

    private static void viewsOfProcessor(List<String> all, Subject x, int c) {
        for (int what = 0; what < 7; what++) {
            all.add("processor " + c + " " + what + ": " + x.processor(c, what));
        }
        for (int k = 0; k < 7; k++) {
            all.add("returns " + c + " " + k + ": " + x.returns(c, k, 0) + " " + x.returns(c, k, 1));
        }
        for (int k = 0; k < 5; k++) {
            all.add("ring " + c + " " + k + ": " + x.ring(c, k, 0) + " " + x.ring(c, k, 1) + " " + x.ring(c, k, 2));
        }
        for (int what = 0; what < 5; what++) {
            all.add("ever " + c + " " + what + ": " + x.ever(c, 0, what) + " " + x.ever(c, 1, what) + " "
                + x.ever(c, 60, what));
        }
    }

    static Subject in(Consumer<Subject> scene) {
        Subject x = new Subject();
        scene.accept(x);
        return x;
    }

    /** Two runs of calls, each on a new object, behind which all looks alike but for how much can be UNDONE. */
    static void alike(String when, Consumer<Subject> one, Consumer<Subject> other) {
        alikeButForUndo(when, views(in(one)), views(in(other)));
    }

    private static void alikeButForUndo(String when, List<String> got, List<String> want) {
        got.removeIf(view -> view.startsWith("count 5:"));
        want.removeIf(view -> view.startsWith("count 5:"));
        alike(when, got, want);
    }

    private static void alike(String when, List<String> got, List<String> want) {
        looked++;
        for (int i = 0; i < want.size(); i++) {
            if (!got.get(i).equals(want.get(i))) {
                tellWrong(when + ": " + got.get(i) + ", due is " + want.get(i));
            }
        }
    }

    /** In that scene the call answers so, and nothing changes then: neither what is seen nor what can be UNDONE. */
    static void refused(String call, Consumer<Subject> scene, ToIntFunction<Subject> deed, int want) {
        due(call, deed.applyAsInt(in(scene)), want);
        for (int undone = 0; undone <= 4; undone++) {
            Subject without = in(scene);
            Subject with = in(scene);
            deed.applyAsInt(with);
            for (int i = 0; i < undone; i++) {
                due(call + ", then undo", with.undo(), without.undo());
            }
            alike("behind " + call + " and " + undone + " undo", views(with), views(without));
        }
        Subject without = in(scene);
        Subject with = in(scene);
        deed.applyAsInt(with);
        due(call + ", then write", with.write('!'), without.write('!'));
        due(call + ", then asked", with.asked(7), without.asked(7));
        due(call + ", then wipe", with.wipe(), without.wipe());
    }

    /** What a call does is a change, and with it UNDONE all is as it was; a new object has the same scene. */
    static void undone(String call, Consumer<Subject> scene, ToIntFunction<Subject> deed) {
        Subject with = in(scene);
        int before = with.count(5);
        due(call + " is done", deed.applyAsInt(with) >= 0 ? 1 : 0, 1);
        due(call + " is one change", with.count(5), Math.min(before + 1, 4));
        due("undo of " + call, with.undo(), Math.min(before, 3));
        // With 4 that could be UNDONE before, the oldest went out when this one came.
        alikeButForUndo("behind undo of " + call, views(with), views(in(scene)));
    }
}
