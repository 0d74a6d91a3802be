import java.lang.management.ManagementFactory;
import java.lang.reflect.Field;
import java.lang.reflect.Method;
import java.lang.reflect.Modifier;
import java.nio.file.Files;
import java.nio.file.Path;
import java.util.Set;
import java.util.TreeSet;
import java.util.regex.Matcher;
import java.util.regex.Pattern;

/** What can be seen from outside of the rules of LANGUAGE.md, and the room that calls take. */
public final class RulesTest {
    private static final Set<String> METHODS = Set.of("write(1)", "wipe(0)", "fault(0)", "lay(0)", "probe(2)",
        "turn(2)", "remove(1)", "filter(1)", "start(3)", "step(2)", "poke(2)", "undo(0)", "code(2)", "memory(1)",
        "processor(2)", "returns(3)", "ring(3)", "look(2)", "asked(1)", "ever(3)", "count(1)");
    private static final Set<String> CONSTANTS = Set.of("BAD", "NO", "FULL", "NONE");

    private static int wrong = 0;

    public static void main(String[] args) throws Exception {
        face();
        for (Class<?> inside : CodeProbes.class.getDeclaredClasses()) {
            holds(Modifier.isStatic(inside.getModifiers()), "2: " + inside + " is not static");
            holds(!Modifier.isPublic(inside.getModifiers()), "1: " + inside + " is public");
            members(inside);
        }
        members(CodeProbes.class);
        holds(CodeProbes.class.getDeclaredClasses().length < 12, "11: more than some twelve classes");
        source(Files.readString(Path.of(System.getProperty("program", "src/main/java/CodeProbes.java"))));
        room();
        System.out.println(wrong == 0 ? "the rules hold" : wrong + " rules are broken");
        if (wrong != 0) {
            System.exit(1);
        }
    }

    private static void holds(boolean is, String rule) {
        if (!is) {
            wrong++;
            System.out.println("rule " + rule);
        }
    }

    private static void face() {
        int modifiers = CodeProbes.class.getModifiers();
        holds(Modifier.isPublic(modifiers) && Modifier.isFinal(modifiers), "1: the class is public and final");
        Set<String> open = new TreeSet<>();
        for (Method method : CodeProbes.class.getDeclaredMethods()) {
            if (!Modifier.isPrivate(method.getModifiers())) {
                open.add(method.getName() + "(" + method.getParameterCount() + ")");
                holds(method.getReturnType() == int.class, "1: " + method);
            }
        }
        holds(open.equals(new TreeSet<>(METHODS)), "1: methods that can be seen: " + open);
        Set<String> fields = new TreeSet<>();
        for (Field field : CodeProbes.class.getDeclaredFields()) {
            if (!Modifier.isPrivate(field.getModifiers())) {
                fields.add(field.getName());
            }
        }
        holds(fields.equals(new TreeSet<>(CONSTANTS)), "1: fields that can be seen: " + fields);
        holds(CodeProbes.class.getDeclaredConstructors().length == 1, "1: one constructor");
    }

    private static void members(Class<?> one) {
        int fields = 0;
        for (Field field : one.getDeclaredFields()) {
            if (Modifier.isStatic(field.getModifiers())) {
                holds(Modifier.isFinal(field.getModifiers()), "5: " + field + " is not final");
            } else {
                fields++;
            }
        }
        holds(fields <= 20, "11: more than some twenty fields in " + one);
        for (Method method : one.getDeclaredMethods()) {
            holds(method.getParameterCount() <= 7, "11: parameters of " + method);
            boolean ofTheFace = Modifier.isPublic(method.getModifiers());
            boolean named = METHODS.stream().anyMatch(face -> face.startsWith(method.getName() + "("));
            holds(ofTheFace || !named, "1: " + method + " bears the name of a public one");
        }
    }

    private static void source(String program) {
        String bare = program.replaceAll("(?s)/\\*.*?\\*/", "").replaceAll("//[^\n]*", "")
            .replaceAll("\"[^\"\n]*\"", "\"\"").replaceAll("'[^'\n]*'", "''");
        Matcher word = Pattern.compile("\\b(package|import|throw|throws|try|catch|finally|synchronized|assert|native"
            + "|volatile|transient|float|double|var|yield|sealed)\\b|->|::|\\bjava\\.").matcher(bare);
        while (word.find()) {
            holds(false, "3, 4 or 6: the source has " + word.group());
        }
        Matcher library = Pattern.compile("\\b(System|Math|Integer|Long|Arrays|Character|Boolean|Objects)\\.(\\w+)")
            .matcher(bare);
        while (library.find()) {
            holds(Set.of("System.arraycopy", "Math.max", "Math.min", "Math.floorMod").contains(library.group()),
                "4: the source uses " + library.group());
        }
        holds(program.chars().allMatch(sign -> sign == '\n' || sign >= 32 && sign < 127), "3: signs beyond 126");
        int since = 0;
        String[] lines = bare.split("\n");
        for (int i = 0; i < lines.length; i++) {
            if (lines[i].matches(" {4}(    )?\\S.*\\) \\{")) {
                since = i;
            } else if (lines[i].matches(" {4}(    )?\\}")) {
                holds(i - since <= 60 || lines[since].contains("class"), "11: a long method ends at line " + (i + 1));
            }
        }
    }

    private static long taken() {
        return ((com.sun.management.ThreadMXBean) ManagementFactory.getThreadMXBean()).getCurrentThreadAllocatedBytes();
    }

    private static CodeProbes busy(int calls) {
        CodeProbes x = new CodeProbes();
        x.probe(0, 0);
        x.probe(1, 14);
        for (int i = 0; i < calls; i++) {
            x.start(0, 0, 0);
            x.poke(0, 1 + i % 900);
            x.step(0, 60);
            x.ever(0, 60, 4);
            x.fault();
            x.asked(0);
            x.undo();
            x.lay();
            x.count(4);
        }
        return x;
    }

    private static void room() {
        busy(10);
        long before = taken();
        CodeProbes x = new CodeProbes();
        long made = taken() - before;
        holds(made < 20_000, "12: a new object takes " + made + " bytes");
        before = taken();
        busy(56);
        long ran = taken() - before - made;
        holds(ran < 2_000, "12: calls that keep nothing take " + ran + " bytes");
        x.probe(0, 0);
        x.write('0');
        for (int i = 1; i < 200; i++) {
            x.write('!');
        }
        before = taken();
        for (int i = 0; i < 311; i++) {
            x.filter(0);
        }
        long kept = taken() - before;
        holds(kept < 200_000, "12: all filters that one run can give take " + kept + " bytes");
        System.out.println("bytes: made " + made + ", ran " + ran + ", kept " + kept);
    }
}
