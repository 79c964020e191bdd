import java.lang.reflect.Constructor;
import java.lang.reflect.Field;
import java.lang.reflect.Method;
import java.lang.reflect.Modifier;
import java.net.URL;
import java.net.URLClassLoader;
import java.nio.file.Files;
import java.nio.file.Path;
import java.util.ArrayList;
import java.util.List;
import java.util.TreeSet;
import java.util.regex.Matcher;
import java.util.regex.Pattern;
import javax.tools.ToolProvider;

/** README.md, which stands where this is run: its face is the class's, its example answers as it says. */
public final class ReadmeTest {
    /** A line of the example that says what its call answers. */
    private static final Pattern ANSWERED = Pattern.compile("^(x\\..*);\\s*// (-?\\d+): .*$");

    private ReadmeTest() {
    }

    public static void main(String[] args) throws Exception {
        List<String> blocks = blocks(Files.readString(Path.of("README.md")));
        Due.due("blocks of Java", blocks.size(), 2);
        if (blocks.size() == 2) {
            example(blocks.get(0));
            face(blocks.get(1));
        }
        Due.finish();
    }

    private static List<String> blocks(String page) {
        List<String> blocks = new ArrayList<>();
        Matcher m = Pattern.compile("```java\n(.*?)```", Pattern.DOTALL).matcher(page);
        while (m.find()) {
            blocks.add(m.group(1));
        }
        return blocks;
    }

    // ---- the example

    private static void example(String block) throws Exception {
        Due.about("the example of README.md");
        List<String> told = new ArrayList<>();
        List<Long> wanted = new ArrayList<>();
        StringBuilder body = new StringBuilder();
        for (String line : block.split("\n")) {
            Matcher m = ANSWERED.matcher(line);
            if (m.matches()) {
                told.add(m.group(1));
                wanted.add(Long.parseLong(m.group(2)));
                body.append("answers.add((long) ").append(m.group(1)).append(");\n");
            } else {
                body.append(line).append('\n');
            }
        }
        List<Long> answers = new ArrayList<>();
        run(body.toString(), answers);
        Due.due("lines with an answer", answers.size(), wanted.size());
        for (int i = 0; i < answers.size(); i++) {
            Due.due(told.get(i), answers.get(i), wanted.get(i));
        }
    }

    private static void run(String body, List<Long> answers) throws Exception {
        Path dir = Files.createTempDirectory("readme");
        Path source = dir.resolve("Example.java");
        Files.writeString(source, "public class Example {\npublic static void run(java.util.List<Long> answers) {\n"
            + body + "}\n}\n");
        int failed = ToolProvider.getSystemJavaCompiler().run(null, null, null, "-proc:none",
            "-cp", System.getProperty("java.class.path"), "-d", dir.toString(), source.toString());
        Due.due("does not compile", failed, 0);
        if (failed == 0) {
            try (URLClassLoader loader = new URLClassLoader(new URL[] {dir.toUri().toURL()})) {
                loader.loadClass("Example").getMethod("run", List.class).invoke(null, answers);
            }
        }
        for (String file : new String[] {"Example.class", "Example.java", ""}) {
            Files.deleteIfExists(dir.resolve(file));
        }
    }

    // ---- the face

    private static void face(String block) throws Exception {
        Due.about("the face in README.md");
        TreeSet<String> told = new TreeSet<>();
        for (String line : block.split("\n")) {
            String code = line.replaceAll("//.*", "").trim();
            if (code.endsWith(";")) {
                told.addAll(members(code));
            }
        }
        TreeSet<String> there = new TreeSet<>();
        for (Constructor<?> c : HandshakeBinds.class.getConstructors()) {
            there.add("HandshakeBinds(" + types(c.getParameterTypes()) + ")");
        }
        for (Field f : HandshakeBinds.class.getFields()) {
            there.add(f.getType() + " " + f.getName() + " = " + f.getLong(null));
        }
        for (Method m : HandshakeBinds.class.getDeclaredMethods()) {
            if (Modifier.isPublic(m.getModifiers())) {
                there.add(m.getReturnType() + " " + m.getName() + "(" + types(m.getParameterTypes()) + ")");
            }
        }
        Due.due("members", there.size(), 1 + 5 + 33);
        for (String member : there) {
            Due.due("not told: " + member, told.contains(member) ? 1 : 0, 1);
        }
        for (String member : told) {
            Due.due("not there: " + member, there.contains(member) ? 1 : 0, 1);
        }
    }

    private static String types(Class<?>[] types) {
        StringBuilder s = new StringBuilder();
        for (Class<?> type : types) {
            s.append(s.length() == 0 ? "" : ",").append(type.getName());
        }
        return s.toString();
    }

    /** One member for a method, one for each constant; the parameters' names are free. */
    private static List<String> members(String code) {
        List<String> members = new ArrayList<>();
        String rest = code.replace("public ", "").replace("static final ", "").replace(";", "");
        int open = rest.indexOf('(');
        if (open >= 0) {
            String numbers = rest.substring(open + 1, rest.indexOf(')'));
            members.add(rest.substring(0, open) + "(" + numbers.replaceAll(" \\w+(, )?", ",").replaceAll(",$", "") + ")");
            return members;
        }
        String type = rest.substring(0, rest.indexOf(' '));
        for (String constant : rest.substring(type.length()).trim().split(", ")) {
            members.add(type + " " + constant.replace("Long.MIN_VALUE", "" + Long.MIN_VALUE));
        }
        return members;
    }
}
