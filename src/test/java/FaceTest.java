import java.io.IOException;
import java.lang.reflect.Field;
import java.lang.reflect.Method;
import java.lang.reflect.Modifier;
import java.nio.file.Files;
import java.nio.file.Path;
import java.util.Arrays;
import java.util.List;
import java.util.TreeSet;
import java.util.regex.Pattern;

/** The public face as the document has it, and those rules of LANGUAGE.md that can be seen from outside. */
public final class FaceTest {
    private static final Checks CHECKS = new Checks();
    private static final String FACE = """
        int feed(int,int,int,int,int)
        boolean end(int)
        int fault(int)
        int text(int)
        int sky(int)
        int pond(int,int)
        int pipe(int,int)
        boolean law(int)
        boolean odds(int,int)
        boolean key(int,boolean)
        int pour(int,int)
        int stock(int,int)
        int days(int)
        int years(int,long)
        int undo()
        int log(int,int)
        int step(int,int,int)
        int run(int,int)
        int perform(int)
        int ahead(int,int)
        int dries(int)
        int bare()
        int keys(int)
        int kept(int,int)
        int cut(int)
        int rest(int)
        int joined(int)
        int apart()
        int measured(int,int)
        int secret(int)
        int measure()
        int walls()
        int feud(int,int,int,int,int,int,int)
        int rests(int,int,int,int,int,int)
        int reads(int)
        int darkest()
        int rent(int)
        int trend(int)
        int shares()
        int largest()
        int eaten(int)
        int image()
        int back()
        int count(int)
        """;

    public static void main(String[] args) throws IOException {
        face();
        insides();
        source(Files.readString(Path.of("src/main/java/PondRoofs.java")));
        CHECKS.finish();
    }

    private static String told(Method m) {
        String parameters = Arrays.toString(Arrays.stream(m.getParameterTypes()).map(Class::getName).toArray());
        return m.getReturnType().getName() + " " + m.getName() + parameters.replace("[", "(").replace("]", ")").replace(" ", "");
    }

    private static void face() {
        Class<?> c = PondRoofs.class;
        CHECKS.due("public and final", Modifier.isPublic(c.getModifiers()) && Modifier.isFinal(c.getModifiers()), true);
        CHECKS.due("constructors", c.getDeclaredConstructors().length, 1);
        CHECKS.due("NONE", PondRoofs.NONE, -1);
        CHECKS.due("HIDDEN", PondRoofs.HIDDEN, -1000000);
        TreeSet<String> want = new TreeSet<>(FACE.lines().toList());
        TreeSet<String> got = new TreeSet<>();
        for (Method m : c.getDeclaredMethods()) {
            if (Modifier.isPrivate(m.getModifiers())) {
                CHECKS.due("a private method called " + m.getName(), FACE.contains(" " + m.getName() + "("), false);
            } else {
                CHECKS.due(m.getName() + " is public", Modifier.isPublic(m.getModifiers()), true);
                CHECKS.due(m.getName() + " is static", Modifier.isStatic(m.getModifiers()), false);
                got.add(told(m));
            }
        }
        CHECKS.due("the face " + got, got.equals(want), true);
        for (Field f : c.getDeclaredFields()) {
            boolean constant = f.getName().equals("NONE") || f.getName().equals("HIDDEN");
            CHECKS.due(f.getName() + " is private", Modifier.isPrivate(f.getModifiers()), !constant);
        }
    }

    private static void insides() {
        Class<?>[] inside = PondRoofs.class.getDeclaredClasses();
        CHECKS.due("some twelve classes", inside.length <= 12, true);
        for (Class<?> c : inside) {
            CHECKS.due(c + " is static", Modifier.isStatic(c.getModifiers()), true);
            CHECKS.due(c + " is public or protected", (c.getModifiers() & (Modifier.PUBLIC | Modifier.PROTECTED)) != 0, false);
            for (Method m : c.getDeclaredMethods()) {
                CHECKS.due(c + "." + m.getName() + ": at most seven parameters", m.getParameterCount() <= 7, true);
                CHECKS.due(c + "." + m.getName() + " bears a name of the face", FACE.contains(" " + m.getName() + "("), false);
            }
            for (Field f : c.getDeclaredFields()) {
                boolean kept = !Modifier.isStatic(f.getModifiers()) || Modifier.isFinal(f.getModifiers());
                CHECKS.due(c + "." + f.getName() + " is no static state", kept, true);
            }
        }
    }

    private static void source(String text) {
        String code = text.replaceAll("/\\*\\*[^*]*\\*/", "").replaceAll("//.*", "");
        List<String> ruledOut = List.of("->", "::", "\\bfinally\\b", "\\bsynchronized\\b", "\\bassert\\b", "\\bpackage\\b",
            "Exact\\b", "\\btry\\b", "\\bcatch\\b", "\\bcurrentTimeMillis\\b", "\\bnanoTime\\b", "\\bRandom\\b", "\\bObject\\b",
            "\\bSystem\\.(?!arraycopy)", "\\bwhile \\(true\\)", "\\bfor \\(;", "[^\\x00-\\x7F]", "\\bstatic \\{",
            "\\b(Integer|Long)\\.M[AI]");
        for (String word : ruledOut) {
            CHECKS.due("the source has " + word, Pattern.compile(word).matcher(code).find(), false);
        }
        CHECKS.due("one import", text.lines().filter(l -> l.startsWith("import ")).count(), 1);
        CHECKS.due("one throw", code.split("\\bthrow\\b", -1).length - 1, 1);
        // All rows are made in constructors, so that no call takes room.
        code.lines().filter(l -> l.contains("new ")).forEach(l -> CHECKS.due("made outside a constructor: " + l,
            l.matches(" +(private )?final .* = new .*;| +\\w+(\\[i\\])? = new .*;| +throw new .*;"), true));
        int begun = 0;
        List<String> lines = text.lines().toList();
        for (int i = 0; i < lines.size(); i++) {
            String line = lines.get(i);
            if (line.matches("    (    )?(public|private|static|boolean|int|void|[A-Z]\\w*).*\\) .*\\{|    (    )?\\w.*\\) \\{")) {
                begun = i;
            } else if (line.matches("    (    )?\\}")) {
                CHECKS.due("a short method at line " + (begun + 1), i - begun <= 62 || line.length() == 5, true);
            }
        }
    }
}
