import java.lang.reflect.Constructor;
import java.lang.reflect.Field;
import java.lang.reflect.Method;
import java.lang.reflect.Modifier;
import java.nio.charset.StandardCharsets;
import java.nio.file.Files;
import java.nio.file.Path;
import java.util.Arrays;
import java.util.List;
import java.util.Set;
import java.util.TreeSet;
import java.util.regex.Matcher;
import java.util.regex.Pattern;

/** The face is the document's and no wider, and the source keeps to what LANGUAGE.md lets be seen from outside. */
public final class FaceTest {
    private static final String FACE = """
            int status()
            long top()
            long bottom()
            boolean tray(int, int, int)
            boolean write(int, int, long)
            long read(int, int)
            boolean pour(int, int, int, int, int)
            int feed(int, int, int, int, int)
            int hall(int)
            int rule(int)
            int fault(int)
            int many(int)
            int name(int, int)
            int sort(int, int)
            int order(int, int)
            boolean stand(int, boolean)
            boolean voters(int, int, int)
            int wins()
            int firsts(int)
            int beats(int, int)
            int left(int)
            int told(int, int)
            int cost(int, int)
            int names(int, boolean, int, boolean)
            int people(int, boolean, int, int, boolean)
            int found(int)
            int moved(int)
            int safe(int)
            int parted(int)
            int parting(int)
            int cousins()
            int alike(int, int)
            int game(int, int, int, int)
            int opening()
            boolean doubt(int, int)
            boolean seldom(int, int)
            int acts(int)
            int act()
            int acted(int)
            int mark()
            int back()
            """;

    public static void main(String[] args) throws Exception {
        face();
        hidden();
        source();
        Check.end("FaceTest");
    }

    private static void face() throws Exception {
        Set<String> told = toldFace();
        Check.due("public and final", DoorList.class.getModifiers(), Modifier.PUBLIC | Modifier.FINAL);
        Set<String> want = new TreeSet<>(Arrays.asList(FACE.strip().split("\n")));
        Set<String> got = new TreeSet<>();
        for (Method m : DoorList.class.getDeclaredMethods()) {
            if (!Modifier.isPrivate(m.getModifiers())) {
                Check.due(m.getName() + " is public and no more", m.getModifiers(), Modifier.PUBLIC);
                List<String> types = Arrays.stream(m.getParameterTypes()).map(Class::getName).toList();
                got.add(m.getReturnType().getName() + " " + m.getName() + "(" + String.join(", ", types) + ")");
            }
        }
        if (!got.equals(want)) {
            System.out.println("the face is " + got);
        }
        Check.due("the face's methods", got.equals(want), true);
        Check.due("the document's face: " + told, told.equals(want), true);
        Constructor<?>[] made = DoorList.class.getDeclaredConstructors();
        Check.due("constructors", made.length, 1);
        Check.due("its modifiers", made[0].getModifiers(), Modifier.PUBLIC);
        Check.due("its parameters", made[0].getParameterCount(), 0);
        Field none = DoorList.class.getDeclaredField("NONE");
        Check.due("NONE", none.getInt(null), -1);
        Check.due("NONE's modifiers", none.getModifiers(), Modifier.PUBLIC | Modifier.STATIC | Modifier.FINAL);
    }

    /** The methods that the document's face tells, by their types. */
    private static Set<String> toldFace() {
        Set<String> told = new TreeSet<>();
        int from = Doc.text().indexOf("public final class DoorList {");
        int to = Doc.text().indexOf("```", Math.max(from, 0));
        Check.due("the document has a face", from >= 0 && to > from, true);
        if (from < 0 || to < from) {
            return told;
        }
        Matcher m = Pattern.compile("public (\\w+ \\w+)\\(([^)]*)\\);").matcher(Doc.text().substring(from, to));
        while (m.find()) {
            told.add(m.group(1) + "(" + m.group(2).replaceAll("(\\w+) \\w+", "$1") + ")");
        }
        return told;
    }

    private static void hidden() {
        for (Field f : DoorList.class.getDeclaredFields()) {
            Check.due(f.getName() + " is private", Modifier.isPrivate(f.getModifiers()), !f.getName().equals("NONE"));
        }
        Set<String> faced = new TreeSet<>();
        for (String line : FACE.strip().split("\n")) {
            faced.add(line.replaceAll(".* (\\w+)\\(.*", "$1"));
        }
        hiddenMethods(DoorList.class, faced);
        Class<?>[] inside = DoorList.class.getDeclaredClasses();
        Check.due("at most twelve classes", inside.length + 1 <= 12, true);
        for (Class<?> c : inside) {
            Check.due(c + " is static", Modifier.isStatic(c.getModifiers()), true);
            Check.due(c + " is hidden", Modifier.isPublic(c.getModifiers()) || Modifier.isProtected(c.getModifiers()),
                    false);
            hiddenMethods(c, faced);
            for (Field f : c.getDeclaredFields()) {
                boolean state = Modifier.isStatic(f.getModifiers()) && !Modifier.isFinal(f.getModifiers());
                Check.due(c + "." + f.getName() + " is no static state", state, false);
            }
        }
    }

    private static void hiddenMethods(Class<?> c, Set<String> faced) {
        for (Method m : c.getDeclaredMethods()) {
            if (Modifier.isPrivate(m.getModifiers())) {
                Check.due(c + "." + m.getName() + " bears a public name", faced.contains(m.getName()), false);
            }
            Check.due(m.getName() + " takes at most seven", m.getParameterCount() <= 7, true);
        }
    }

    private static void source() throws Exception {
        String text = Files.readString(Path.of("src/main/java/DoorList.java"), StandardCharsets.ISO_8859_1);
        String code = text.replaceAll("(?s)/\\*.*?\\*/", "").replaceAll("//[^\n]*", "");
        for (String word : List.of("throw", "throws", "try", "catch", "synchronized", "assert", "package", "String\\[\\]",
                "->", "::", "Exact", "\\bvar\\b", "Random", "nanoTime", "currentTimeMillis", "Thread", "Object")) {
            String pattern = word.matches("[a-z]+") ? "\\b" + word + "\\b" : word;
            Check.due("'" + word + "' stands in the source", Pattern.compile(pattern).matcher(code).find(), false);
        }
        Matcher imports = Pattern.compile("import ([^;]+);").matcher(code);
        while (imports.find()) {
            Check.due("import " + imports.group(1), imports.group(1).equals("java.util.Arrays"), true);
        }
        Check.due("signs are plain", code.chars().allMatch(c -> c < 128), true);
        shortMethods(code);
    }

    private static void shortMethods(String code) {
        int from = -1;
        String name = "";
        String[] lines = code.split("\n");
        for (int i = 0; i < lines.length; i++) {
            Matcher m = Pattern.compile("^ {4,8}[\\w\\[\\] ]+ (\\w+)\\([^;]*\\{$").matcher(lines[i]);
            if (m.find()) {
                from = i;
                name = m.group(1);
            } else if (from >= 0 && lines[i].matches("^ {4,8}\\}$")) {
                Check.due(name + " is at most 60 lines long", i - from < 60, true);
                from = -1;
            }
        }
    }
}
