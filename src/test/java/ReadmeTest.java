import java.io.IOException;
import java.lang.reflect.InvocationTargetException;
import java.lang.reflect.Method;
import java.lang.reflect.Modifier;
import java.nio.ByteBuffer;
import java.nio.charset.StandardCharsets;
import java.nio.file.Files;
import java.nio.file.Path;
import java.util.ArrayList;
import java.util.List;
import java.util.regex.Matcher;
import java.util.regex.Pattern;

/** README.md is there, names every call and how the tests are run, and each answer that it tells is so. */
public final class ReadmeTest {
    private static final Checks CHECKS = new Checks();
    private static final Pattern CALL = Pattern.compile("roofs\\.(\\w+)\\((.*?)\\); *// (-?\\d+|true|false): (.*)");
    private static final Pattern QUOTED = Pattern.compile(".*\"(.*)\".*");

    public static void main(String[] args) throws IOException, ReflectiveOperationException {
        Path page = Path.of("README.md");
        CHECKS.due("README.md is there", Files.isRegularFile(page), true);
        if (Files.isRegularFile(page)) {
            String text = Files.readString(page);
            namesAll(text);
            answersAreSo(codeOf(text));
            helperIsTheOneTestedHere(codeOf(text));
        }
        helperFeeds();
        CHECKS.finish();
    }

    private static void namesAll(String text) {
        for (Method m : PondRoofs.class.getDeclaredMethods()) {
            if (Modifier.isPublic(m.getModifiers())) {
                CHECKS.due("README.md names " + m.getName(), text.contains("`" + m.getName() + "(")
                    || text.contains("roofs." + m.getName() + "("), true);
            }
        }
        for (String word : List.of("new PondRoofs()", ".ci/run", "../shared/tests", "A town", "A law", "A plan")) {
            CHECKS.due("README.md names " + word, text.contains(word), true);
        }
    }

    /** The lines of the page's pieces of Java. */
    private static List<String> codeOf(String text) {
        List<String> code = new ArrayList<>();
        boolean inside = false;
        for (String line : text.lines().toList()) {
            if (line.startsWith("```")) {
                inside = line.equals("```java");
            } else if (inside) {
                code.add(line);
            }
        }
        return code;
    }

    private static void answersAreSo(List<String> code) throws ReflectiveOperationException {
        PondRoofs roofs = null;
        int sortsTaken = 0;
        for (String line : code) {
            if (line.contains("= new PondRoofs()")) {
                roofs = new PondRoofs();
            }
            if (!line.startsWith("roofs.")) {
                continue;
            }
            Matcher call = CALL.matcher(line);
            CHECKS.due("README.md tells an answer: " + line, call.matches(), true);
            if (call.matches()) {
                CHECKS.due(line, answer(roofs, call.group(1), call.group(2)), call.group(3));
                feedsWhatIsQuoted(line, call.group(4));
                sortsTaken |= call.group(1).equals("text") ? 1 << Integer.parseInt(call.group(2)) : 0;
            }
        }
        CHECKS.due("README.md feeds a town, a law and a plan", sortsTaken, 7);
    }

    private static String answer(PondRoofs roofs, String name, String told) throws ReflectiveOperationException {
        for (Method m : PondRoofs.class.getDeclaredMethods()) {
            if (m.getName().equals(name)) {
                Class<?>[] sorts = m.getParameterTypes();
                String[] words = told.isEmpty() ? new String[0] : told.split(", ");
                Object[] given = new Object[sorts.length];
                for (int i = 0; i < sorts.length && sorts.length == words.length; i++) {
                    given[i] = argument(sorts[i], words[i]);
                }
                try {
                    return String.valueOf(m.invoke(roofs, given));
                } catch (InvocationTargetException e) {
                    return e.getCause().toString();
                }
            }
        }
        return "no such call";
    }

    private static Object argument(Class<?> sort, String word) {
        if (sort == boolean.class) {
            return Boolean.valueOf(word);
        }
        long number = Long.decode(word.replace("L", ""));
        return sort == long.class ? (Object) number : (Object) (int) number;
    }

    /** The numbers fed are those of the text told beside them. */
    private static void feedsWhatIsQuoted(String line, String beside) {
        Matcher quoted = QUOTED.matcher(beside);
        if (!quoted.matches()) {
            return;
        }
        StringBuilder want = new StringBuilder();
        byte[] bytes = new byte[20];
        byte[] signs = quoted.group(1).getBytes(StandardCharsets.ISO_8859_1);
        System.arraycopy(signs, 0, bytes, 0, signs.length);
        ByteBuffer five = ByteBuffer.wrap(bytes);
        for (int i = 0; i < 5; i++) {
            int word = five.getInt();
            want.append(i == 0 ? "(" : ", ").append(word == 0 ? "0" : String.format("0x%08X", word));
        }
        CHECKS.due(line + " feeds what it says", line.contains(want + ");"), true);
    }

    /** The helper that the page offers stands below word by word. */
    private static void helperIsTheOneTestedHere(List<String> code) throws IOException {
        String own = Files.readString(Path.of("src/test/java/ReadmeTest.java"));
        int from = code.indexOf("static int feedText(PondRoofs roofs, String text) {");
        CHECKS.due("README.md has feedText", from >= 0, true);
        if (from >= 0) {
            StringBuilder helper = new StringBuilder();
            code.subList(from, code.size()).stream().takeWhile(line -> !line.equals("}"))
                .forEach(line -> helper.append("    ").append(line).append('\n'));
            CHECKS.due("feedText is the one tested", own.contains(helper.append("    }\n")), true);
        }
    }

    private static void helperFeeds() {
        PondRoofs roofs = new PondRoofs();
        CHECKS.due("feedText of a town", feedText(roofs, "sr1d2m3;pw40c50b1n2e3k4l5f6g7;p;ia0b1m9h3o1"), 43);
        CHECKS.due("text(0)", roofs.text(0), 2);
        CHECKS.due("pond(0, 8)", roofs.pond(0, 8), 7);
        CHECKS.due("pipe(0, 3)", roofs.pipe(0, 3), 3);
        CHECKS.due("feedText of nothing", feedText(roofs, ""), 0);
        CHECKS.due("feedText of 240", feedText(roofs, "p".repeat(240)), 240);
        CHECKS.due("feedText of one more", feedText(roofs, "p"), PondRoofs.NONE);
        CHECKS.due("count(4)", roofs.count(4), 240);
    }

    static int feedText(PondRoofs roofs, String text) {
        int told = roofs.count(4);
        for (int from = 0; from < text.length() && told != PondRoofs.NONE; from += 20) {
            int[] five = new int[5];
            for (int i = from; i < from + 20 && i < text.length(); i++) {
                five[(i - from) / 4] |= text.charAt(i) << (24 - 8 * (i % 4));
            }
            told = roofs.feed(five[0], five[1], five[2], five[3], five[4]);
        }
        return told;
    }
}
