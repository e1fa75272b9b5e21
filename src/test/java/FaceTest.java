import java.io.IOException;
import java.lang.reflect.Constructor;
import java.lang.reflect.Field;
import java.lang.reflect.Method;
import java.lang.reflect.Modifier;
import java.nio.file.Files;
import java.nio.file.Path;
import java.util.Arrays;
import java.util.HashSet;
import java.util.List;
import java.util.Set;
import java.util.TreeSet;

/** The public face, and those rules of LANGUAGE.md that can be seen from the classes or from the words of the file. */
public final class FaceTest {
    private static final String FACE = """
        public int feed(int)
        public int train()
        public int line(int,int)
        public int holder(int)
        public int looker(int,int)
        public int takes(int,int)
        public int shows(int)
        public int tilt(int)
        public int base(int)
        public int sit(int,int)
        public int read(int,int)
        public int away(int,int)
        public int page()
        public int most(int)
        public int plan(int,int)
        public int by(int,int)
        public int rest(int,int)
        public int first(int)
        public int hold()
        public int bend()
        public int early(int)
        public int seat(int)
        public int more(int,int)
        public int both(int,int)
        public long chance(int,int,int)
        public int missed(int)
        public int left(int)
        public int kinds(int,int)
        public int row(int)
        public int judge(int)
        public int seeds(int,int,int,int)
        public int image()
        public int restore()
        public int count(int)
        """;
    private static final List<String> FORBIDDEN = List.of("throw", "try", "catch", "synchronized", "assert", "import",
            "package", "native", "volatile", "transient", "instanceof", "Exact", "->", "::", "@", "System", "Random",
            "Thread", "Object", "hashCode", "toString", "new ArrayList", "float", "double");

    private FaceTest() {
    }

    public static void main(String[] args) throws IOException {
        Class<?> face = OverTheShoulder.class;
        Checks.equal("modifiers of the class", face.getModifiers(), Modifier.PUBLIC | Modifier.FINAL);
        members(face);
        for (Class<?> inside : face.getDeclaredClasses()) {
            inside(face, inside);
        }
        Checks.holds("at most twelve classes", face.getDeclaredClasses().length <= 11);
        Path file = Path.of(args.length > 0 ? args[0] : "src/main/java/OverTheShoulder.java");
        words(file);
        lengths(file);
        Checks.end("FaceTest");
    }

    private static void members(Class<?> face) {
        Set<String> due = new TreeSet<>(Arrays.asList(FACE.strip().split("\n")));
        Set<String> got = new TreeSet<>();
        Set<String> names = new HashSet<>();
        for (Method method : face.getDeclaredMethods()) {
            if (!Modifier.isPrivate(method.getModifiers())) {
                got.add(method.toString().replace("OverTheShoulder.", ""));
                names.add(method.getName());
            }
        }
        Checks.holds("the methods are the document's: " + got, got.equals(due));
        Constructor<?>[] made = face.getDeclaredConstructors();
        Checks.holds("one constructor", made.length == 1 && Modifier.isPublic(made[0].getModifiers())
                && made[0].getParameterCount() == 0);
        for (Method method : face.getDeclaredMethods()) {
            Checks.holds(method + " bears a name of its own",
                    !Modifier.isPrivate(method.getModifiers()) || !names.contains(method.getName()));
        }
        for (Class<?> inside : face.getDeclaredClasses()) {
            for (Method method : inside.getDeclaredMethods()) {
                Checks.holds(method + " bears a name of its own", !names.contains(method.getName()));
                Checks.holds(method + " takes at most seven", method.getParameterCount() <= 7);
            }
        }
    }

    private static void inside(Class<?> face, Class<?> inside) {
        Checks.holds(inside + " is static", Modifier.isStatic(inside.getModifiers()));
        Checks.holds(inside + " is not public", !Modifier.isPublic(inside.getModifiers()));
        fields(face);
        fields(inside);
    }

    private static void fields(Class<?> of) {
        int fields = 0;
        for (Field field : of.getDeclaredFields()) {
            boolean isStatic = Modifier.isStatic(field.getModifiers());
            fields += isStatic ? 0 : 1;
            Checks.holds(field + " is private", Modifier.isPrivate(field.getModifiers()));
            Checks.holds(field + " is final, if static", !isStatic || Modifier.isFinal(field.getModifiers()));
        }
        Checks.holds(of + " has some twenty fields at most", fields <= 20);
    }

    private static void words(Path file) throws IOException {
        String text = Files.readString(file).replaceAll("(?s)/\\*.*?\\*/", "");
        for (String word : FORBIDDEN) {
            String letters = word.matches("\\w+") ? "\\b\\w*" + word + "\\b" : java.util.regex.Pattern.quote(word);
            Checks.holds("no '" + word + "'", !java.util.regex.Pattern.compile(letters).matcher(text).find());
        }
        Checks.holds("no other signs", text.chars().allMatch(sign -> sign < 128));
    }

    /** Some sixty lines a method, each of them of 120 signs at most. */
    private static void lengths(Path file) throws IOException {
        int[] start = {0, 0, 0};
        List<String> lines = Files.readAllLines(file);
        for (int i = 0; i < lines.size(); i++) {
            String line = lines.get(i);
            int depth = (line.length() - line.stripLeading().length()) / 4;
            Checks.holds("line " + (i + 1) + " is no longer than 120 signs", line.length() <= 120);
            if (depth >= 1 && depth <= 2 && line.matches(" +(?!if|for|while|switch|else|do)\\w.*\\) \\{")) {
                start[depth] = i + 1;
            }
            if (line.matches(" {4}\\}| {8}\\}") && start[depth] > 0) {
                Checks.holds("what begins in line " + start[depth] + " is short", i + 1 - start[depth] <= 60);
                start[depth] = 0;
            }
        }
    }
}
