import java.io.File;
import java.io.IOException;
import java.lang.reflect.InvocationTargetException;
import java.lang.reflect.Method;
import java.lang.reflect.Modifier;
import java.nio.file.Files;
import java.nio.file.Path;
import java.util.HashMap;
import java.util.Map;
import java.util.regex.Matcher;
import java.util.regex.Pattern;

/** README.md: each call with what it answers, an example that is so, and each file of the tests. */
final class ReadmeTest {
    private static final Pattern ROW = Pattern.compile("(?m)^\\| `(\\w+)\\(([^)]*)\\)` \\|(.+)\\|(.*)\\|$");
    private static final Pattern PROMISE = Pattern.compile("(?ms)^## Promise \\d+: (\\w+)$(.+?)(?=^## )");
    private static final Pattern REFUSAL = Pattern.compile("\\b(BAD|STATE|FULL|NONE|CAUGHT|SPENT)\\b");
    private static final Pattern LINE = Pattern.compile("(?m)^ring\\.(\\w+)\\(([^)]*)\\); +// (-?\\d+): .+$");

    private static final Check C = new Check("ReadmeTest");

    public static void main(String[] args) throws IOException, IllegalAccessException, InvocationTargetException {
        String readme = Files.readString(Path.of("README.md"));
        Map<String, Method> face = face();
        rows(readme, face);
        refusals(readme, Files.readString(Path.of("../shared/DOC.md")), face);
        example(readme, face);
        files(readme);
        C.close();
    }

    private static Map<String, Method> face() {
        Map<String, Method> face = new HashMap<>();
        for (Method m : BladeRing.class.getDeclaredMethods()) {
            if (Modifier.isPublic(m.getModifiers())) {
                face.put(m.getName(), m);
            }
        }
        return face;
    }

    private static int commas(String list) {
        return list.isEmpty() ? 0 : list.split(",").length;
    }

    private static void rows(String readme, Map<String, Method> face) {
        Map<String, Integer> told = new HashMap<>();
        for (Matcher row = ROW.matcher(readme); row.find(); ) {
            String name = row.group(1);
            told.merge(name, 1, Integer::sum);
            boolean made = name.equals("BladeRing");
            C.due(name + "() is of the face", made || face.containsKey(name) ? 1 : 0, 1);
            int parameters = made || !face.containsKey(name) ? 0 : face.get(name).getParameterCount();
            C.due("parameters of " + name + "()", commas(row.group(2)), parameters);
        }
        for (String name : face.keySet()) {
            C.due("rows of " + name + "()", told.getOrDefault(name, 0), 1);
        }
        C.due("rows of the constructor", told.getOrDefault("BladeRing", 0), 1);
    }

    /** Each refusal that the document names for a call stands in its row, too. */
    private static void refusals(String readme, String document, Map<String, Method> face) {
        Map<String, String> rows = new HashMap<>();
        for (Matcher row = ROW.matcher(readme); row.find(); ) {
            rows.put(row.group(1), row.group());
        }
        int calls = 0;
        for (Matcher promise = PROMISE.matcher(document); promise.find(); ) {
            String name = promise.group(1);
            calls += face.containsKey(name) ? 1 : 0;
            for (Matcher refusal = REFUSAL.matcher(promise.group(2)); refusal.find(); ) {
                boolean stands = rows.getOrDefault(name, "").contains("`" + refusal.group() + "`");
                C.due(refusal.group() + " in the row of " + name + "()", stands ? 1 : 0, 1);
            }
        }
        C.due("calls that the document promises", calls, face.size());
    }

    private static void example(String readme, Map<String, Method> face)
            throws IllegalAccessException, InvocationTargetException {
        BladeRing ring = new BladeRing();
        int lines = 0;
        for (Matcher line = LINE.matcher(readme); line.find(); lines++) {
            Method call = face.get(line.group(1));
            C.due(line.group() + " is of the face", call != null ? 1 : 0, 1);
            if (call == null || call.getParameterCount() != commas(line.group(2))) {
                continue;
            }
            Object answer = call.invoke(ring, numbers(call, line.group(2)));
            C.due(line.group(), (Integer) answer, Integer.parseInt(line.group(3)));
        }
        C.due("lines of the example that tell an answer", lines, readme.split("(?m)^ring\\.", -1).length - 1);
        C.due("an example", lines > 0 ? 1 : 0, 1);
    }

    private static Object[] numbers(Method call, String list) {
        Object[] numbers = new Object[call.getParameterCount()];
        String[] words = list.split(", *");
        for (int i = 0; i < numbers.length; i++) {
            if (call.getParameterTypes()[i] == long.class) {
                numbers[i] = Long.decode(words[i].replace("L", ""));
            } else {
                numbers[i] = Integer.decode(words[i]);
            }
        }
        return numbers;
    }

    private static void files(String readme) {
        File[] files = new File("tests").listFiles((folder, name) -> name.endsWith(".java"));
        for (File file : files == null ? new File[0] : files) {
            C.due("README.md names tests/" + file.getName(),
                readme.contains("`tests/" + file.getName() + "`") ? 1 : 0, 1);
        }
        C.due("files under tests", files != null && files.length > 0 ? 1 : 0, 1);
    }
}
