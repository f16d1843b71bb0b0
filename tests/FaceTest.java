import java.io.IOException;
import java.lang.reflect.Field;
import java.lang.reflect.Method;
import java.lang.reflect.Modifier;
import java.nio.charset.StandardCharsets;
import java.nio.file.Files;
import java.nio.file.Path;
import java.util.Set;
import java.util.TreeSet;

/** The document's face, no more and no less, and the rules of LANGUAGE.md that a text can be asked for. */
final class FaceTest {
    private static final String FACE = "about(int) act(int,int) add(int,int) alike(int) back(int) blade(int,int) "
        + "can(int) count(int) dance(int) danceOf(int,int) end(int) fault() feed(long) figure() keep() "
        + "lay(int,int,int) met(int) mirrors(int) order(int) over(int,int) perform(int) place(int,int) ring(int) "
        + "scan(int,int,int,int) shared(int,int,int) sheet(int,int,int) stand(int) told(int,int) undo() village() "
        + "way(int) wayAt(int,int) why()";
    private static final String[] NOT_IN_IT = {"throw", "try", "catch", "synchronized", "assert", "instanceof",
        "equals", "hashCode", "toString", "Object", "System.out", "Random", "Thread", "nanoTime", "Exact"};
    private static final int MOST_LINES = 60, MOST_CLASSES = 12, MOST_FIELDS = 20, MOST_PARAMETERS = 7;

    private static final Check C = new Check("FaceTest");

    public static void main(String[] args) throws IOException {
        face();
        for (Class<?> one : BladeRing.class.getDeclaredClasses()) {
            C.due(one + " is static", Modifier.isStatic(one.getModifiers()) ? 1 : 0, 1);
            C.due(one + " is not public", Modifier.isPublic(one.getModifiers()) ? 1 : 0, 0);
            members(one);
        }
        members(BladeRing.class);
        C.due("few classes", BladeRing.class.getDeclaredClasses().length < MOST_CLASSES ? 1 : 0, 1);
        Path file = Path.of(args.length > 0 ? args[0] : "src/main/java/BladeRing.java");
        text(Files.readString(file, StandardCharsets.UTF_8));
        C.close();
    }

    private static void face() {
        Set<String> names = new TreeSet<>();
        for (Method m : BladeRing.class.getDeclaredMethods()) {
            if (Modifier.isPrivate(m.getModifiers())) {
                continue;
            }
            StringBuilder name = new StringBuilder(m.getName()).append('(');
            for (Class<?> parameter : m.getParameterTypes()) {
                name.append(name.charAt(name.length() - 1) == '(' ? "" : ",").append(parameter);
            }
            names.add(name.append(')').toString());
            C.due(m + " is public", Modifier.isPublic(m.getModifiers()) ? 1 : 0, 1);
            C.due(m + " is an int", m.getReturnType() == int.class ? 1 : 0, 1);
        }
        String found = String.join(" ", names);
        C.due("the face, found: " + found, found.equals(FACE) ? 1 : 0, 1);
        C.due("one constructor", BladeRing.class.getConstructors().length, 1);
        C.due("public and final", BladeRing.class.getModifiers(), Modifier.PUBLIC | Modifier.FINAL);
        int constants = 0;
        for (Field f : BladeRing.class.getDeclaredFields()) {
            constants += Modifier.isPublic(f.getModifiers()) ? 1 : 0;
            C.due(f + " is public or private", f.getModifiers() & (Modifier.PUBLIC | Modifier.PRIVATE),
                Modifier.isPublic(f.getModifiers()) ? Modifier.PUBLIC : Modifier.PRIVATE);
        }
        C.due("constants", constants, 6);
    }

    private static void members(Class<?> one) {
        int fields = 0;
        for (Field f : one.getDeclaredFields()) {
            fields += Modifier.isStatic(f.getModifiers()) ? 0 : 1;
            C.due(f + " is final, if static", Modifier.isStatic(f.getModifiers())
                && !Modifier.isFinal(f.getModifiers()) ? 1 : 0, 0);
        }
        C.due("few fields in " + one, fields <= MOST_FIELDS ? 1 : 0, 1);
        for (Method m : one.getDeclaredMethods()) {
            C.due("few parameters: " + m, m.getParameterCount() <= MOST_PARAMETERS ? 1 : 0, 1);
            boolean hidden = !Modifier.isPublic(m.getModifiers());
            boolean bearsName = (" " + FACE).contains(" " + m.getName() + "(");
            C.due("no name of the face: " + m, hidden && bearsName ? 1 : 0, 0);
        }
    }

    private static void text(String text) {
        for (int i = 0; i < text.length(); i++) {
            if (text.charAt(i) > 126) {
                C.due("sign on place " + i, text.charAt(i), 126);
            }
        }
        String[] lines = text.split("\n");
        int since = 0;
        for (int i = 0; i < lines.length; i++) {
            String line = lines[i].replaceAll("//.*|/\\*\\*.*|'.'|\".*\"", "");
            for (String word : NOT_IN_IT) {
                C.due("line " + (i + 1) + " has " + word, line.matches(".*\\b" + word + "\\b.*") ? 1 : 0, 0);
            }
            boolean only = !line.startsWith("import") || line.equals("import java.util.Arrays;");
            C.due("line " + (i + 1) + " imports", only ? 1 : 0, 1);
            C.due("line " + (i + 1) + " has -> or ::", line.contains("->") || line.contains("::") ? 1 : 0, 0);
            boolean makes = line.matches(".*\\bnew\\b.*");
            boolean ofRow = line.matches(" {4,8}(private )?final .* = new .*;| {12,16}\\w+\\[i\\] = new \\w+\\(\\);");
            C.due("line " + (i + 1) + " makes an object in a call", makes && !ofRow ? 1 : 0, 0);
            C.due("line " + (i + 1) + " divides", line.matches(".*[/%].*") ? 1 : 0, 0);
            boolean opens = line.matches(" {4,8}[a-zA-Z].*\\) \\{");
            since = opens ? i : since;
            boolean closes = line.matches(" {4,8}\\}");
            C.due("lines up to " + (i + 1), closes && i - since > MOST_LINES && line.startsWith("        }") ? 1 : 0, 0);
        }
    }
}
