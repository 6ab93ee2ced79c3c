import java.io.IOException;
import java.lang.reflect.InvocationTargetException;
import java.lang.reflect.Method;
import java.lang.reflect.Modifier;
import java.nio.file.Files;
import java.nio.file.Path;
import java.util.List;
import java.util.Map;
import java.util.TreeMap;
import java.util.regex.Matcher;
import java.util.regex.Pattern;

/** README.md: its runs of calls answer what it says, and its tables name each call with its exceptions. */
public final class ReadmeTest {
    private static final Pattern CALL = Pattern.compile("house\\.(\\w+)\\((.*)\\); +// (throws \\w+|[^:\\s]+)(:.*)?");
    private static final Pattern ROW = Pattern.compile("\\| `(\\w+)\\(([\\w, ]*)\\)` \\| .+ \\| ([\\w, ]*)\\|");
    private static final Map<String, Method> FACE = new TreeMap<>();

    public static void main(String[] args) throws IOException {
        for (Method method : Chipcardhouse.class.getDeclaredMethods()) {
            if (Modifier.isPublic(method.getModifiers())) {
                FACE.put(method.getName(), method);
            }
        }
        List<String> lines = Files.readAllLines(Path.of("README.md"));
        runs(lines);
        tables(lines);
        for (Path test : Files.newDirectoryStream(Path.of("src/test/java"), "*Test.java")) {
            String name = test.getFileName().toString().replace(".java", "");
            Check.due(name + " is named", lines.stream().anyMatch(line -> line.startsWith("| `" + name + "` |")), true);
        }
        Check.finish("ReadmeTest");
    }

    // ---- the runs of calls

    private static void runs(List<String> lines) {
        Chipcardhouse house = null;
        int runs = 0;
        for (int i = 0; i < lines.size(); i++) {
            String line = lines.get(i);
            Check.about = "README.md, line " + (i + 1) + ": ";
            Matcher call = CALL.matcher(line);
            if (line.equals("Chipcardhouse house = new Chipcardhouse();")) {
                house = new Chipcardhouse();
                runs++;
            } else if (call.matches()) {
                String answer = answerOf(house, call.group(1), call.group(2));
                Check.due(line + " (it answered " + answer + ")", answer.equals(call.group(3)), true);
            } else {
                Check.due(line + " is a call with its answer", line.startsWith("house."), false);
            }
        }
        Check.about = "README.md: ";
        Check.due("the runs", runs, 3);
    }

    private static String answerOf(Chipcardhouse house, String name, String told) {
        Method method = FACE.get(name);
        if (house == null || method == null) {
            return "there is no such call";
        }
        String[] words = told.isEmpty() ? new String[0] : told.split(", ");
        Class<?>[] types = method.getParameterTypes();
        if (words.length != types.length) {
            return "there are other arguments";
        }
        Object[] arguments = new Object[words.length];
        for (int i = 0; i < words.length; i++) {
            arguments[i] = argument(words[i], types[i]);
        }
        try {
            return String.valueOf(method.invoke(house, arguments));
        } catch (InvocationTargetException e) {
            return "throws " + e.getCause().getClass().getSimpleName();
        } catch (IllegalAccessException e) {
            return "it can't be called: " + e;
        }
    }

    private static Object argument(String word, Class<?> type) {
        if (type == boolean.class) {
            return Boolean.valueOf(word);
        }
        if (type == long.class) {
            return Long.decode(word.replaceAll("L$", ""));
        }
        return word.equals("Chipcardhouse.NONE") ? Integer.valueOf(Chipcardhouse.NONE) : Integer.valueOf(word);
    }

    // ---- the tables of calls

    private static void tables(List<String> lines) {
        Map<String, Integer> rows = new TreeMap<>();
        for (String line : lines) {
            Matcher row = ROW.matcher(line);
            if (row.matches()) {
                rows.merge(row.group(1), 1, Integer::sum);
                row(row.group(1), row.group(2), row.group(3).trim());
            }
        }
        Check.due("the calls of the tables " + rows.keySet(), rows.keySet().equals(FACE.keySet()), true);
        for (String name : rows.keySet()) {
            Check.due("the rows of " + name, rows.get(name), 1);
        }
    }

    private static void row(String name, String arguments, String thrown) {
        Method method = FACE.get(name);
        Check.due(name + " is a call", method != null, true);
        if (method == null) {
            return;
        }
        int many = arguments.isEmpty() ? 0 : arguments.split(", ").length;
        Check.due("the arguments of " + name, many, method.getParameterCount());
        StringBuilder due = new StringBuilder();
        for (Class<?> kind : method.getExceptionTypes()) {
            due.append(due.length() == 0 ? "" : ", ").append(shortName(kind));
        }
        Check.due(name + " throws '" + thrown + "', due is '" + due + "'", thrown.contentEquals(due), true);
    }

    private static String shortName(Class<?> kind) {
        return kind.getSimpleName().replace("OutOfBoundsException", "").replaceAll("^Illegal|Exception$", "");
    }
}
