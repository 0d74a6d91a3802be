import java.lang.reflect.Field;
import java.lang.reflect.Method;
import java.lang.reflect.Modifier;
import java.nio.file.Files;
import java.nio.file.Path;
import java.util.regex.Matcher;
import java.util.regex.Pattern;

/** README.md says of the class what is so: its example is run, its tables are held against the face. */
public final class ReadmeTest {
    private static final Pattern SHOWN = Pattern.compile("x\\.(\\w+)\\(([^)]*)\\);\\s*// (-?\\d+|[A-Z]+)(:.*)?");

    private static int looked = 0;
    private static int wrong = 0;

    public static void main(String[] args) throws Exception {
        String readme = Files.readString(Path.of(System.getProperty("readme", "README.md")));
        example(readme);
        calls(readme);
        constants(readme);
        System.out.println(looked + " lines of README.md looked at, " + wrong + " wrong");
        if (wrong != 0) {
            System.exit(1);
        }
    }

    private static void holds(boolean is, String what) {
        looked++;
        if (!is) {
            wrong++;
            System.out.println(what);
        }
    }

    private static void example(String readme) throws Exception {
        int from = readme.indexOf("```java\n");
        int to = readme.indexOf("\n```\n", Math.max(from, 0));
        holds(from >= 0 && to > from, "there is no example");
        if (wrong != 0) {
            return;
        }
        String[] lines = readme.substring(from + "```java\n".length(), to).split("\n");
        holds(lines[0].equals("CodeProbes x = new CodeProbes();"), "the example begins with: " + lines[0]);
        CodeProbes x = new CodeProbes();
        for (int i = 1; i < lines.length; i++) {
            Matcher shown = SHOWN.matcher(lines[i]);
            if (shown.matches()) {
                int answer = answer(x, shown.group(1), shown.group(2));
                holds(answer == number(shown.group(3)), lines[i] + " - it answered " + answer);
            } else {
                holds(false, "not a call with its answer: " + lines[i]);
            }
        }
    }

    private static int answer(CodeProbes x, String name, String told) throws Exception {
        String[] words = told.isEmpty() ? new String[0] : told.split(",\\s*");
        Class<?>[] types = new Class<?>[words.length];
        Object[] values = new Object[words.length];
        for (int i = 0; i < words.length; i++) {
            types[i] = int.class;
            values[i] = words[i].startsWith("'") ? (int) words[i].charAt(1) : Integer.parseInt(words[i]);
        }
        return (int) CodeProbes.class.getMethod(name, types).invoke(x, values);
    }

    private static int number(String word) throws Exception {
        boolean isName = Character.isLetter(word.charAt(0));
        return isName ? CodeProbes.class.getField(word).getInt(null) : Integer.parseInt(word);
    }

    /** Each public method has a row, with as many parameters; no other has one. */
    private static void calls(String readme) {
        int methods = 0;
        for (Method method : CodeProbes.class.getDeclaredMethods()) {
            if (Modifier.isPublic(method.getModifiers())) {
                methods++;
                Matcher row = Pattern.compile("(?m)^\\| `" + method.getName() + "\\(([^)]*)\\)` \\|").matcher(readme);
                boolean found = row.find();
                holds(found, "no row for " + method.getName());
                int many = !found || row.group(1).isEmpty() ? 0 : row.group(1).split(",").length;
                holds(many == method.getParameterCount(), "parameters of " + method.getName());
            }
        }
        long rows = readme.lines().filter(line -> line.matches("\\| `\\w+\\([^)]*\\)` \\|.*")).count();
        holds(rows == methods, rows + " rows for " + methods + " methods");
    }

    private static void constants(String readme) throws Exception {
        for (Field field : CodeProbes.class.getFields()) {
            String row = "| `" + field.getName() + "` | " + field.getInt(null) + " |";
            holds(readme.contains(row), "no row " + row);
        }
    }
}
