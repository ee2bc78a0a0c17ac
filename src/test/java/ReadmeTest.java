import java.io.ByteArrayOutputStream;
import java.io.File;
import java.io.IOException;
import java.io.PrintStream;
import java.lang.reflect.Method;
import java.lang.reflect.Modifier;
import java.net.URL;
import java.net.URLClassLoader;
import java.nio.charset.StandardCharsets;
import java.nio.file.Files;
import java.nio.file.Path;
import java.nio.file.Paths;
import java.util.ArrayList;
import java.util.Arrays;
import java.util.List;
import java.util.Set;
import java.util.TreeMap;
import java.util.TreeSet;
import java.util.regex.Matcher;
import java.util.regex.Pattern;
import javax.tools.JavaCompiler;
import javax.tools.ToolProvider;

/** Whether what README.md says holds of the class and of the tests as they stand. */
public final class ReadmeTest {
    private static final Pattern EXAMPLE = Pattern.compile("(?s)```java\n(.*?)```");
    private static final Pattern CLASS = Pattern.compile("public final class (\\w+)");
    private static final Pattern PRINTED = Pattern.compile("System\\.out\\.println\\(.*\\); *// ([^:\n]+):");
    private static final Pattern CALL = Pattern.compile("(?m)^\\| `(\\w+)\\(([^)]*)\\)` \\| .+ \\|(?: `([^`]+)`)? \\|$");
    private static final Pattern TEST = Pattern.compile("(?m)^\\| `(\\w+Test)` \\|");
    private static int wrong = 0;

    public static void main(String[] args) throws Exception {
        String page = new String(Files.readAllBytes(Paths.get("README.md")), StandardCharsets.ISO_8859_1);
        examples(page);
        calls(page);
        tests(page);
        System.out.println(wrong == 0 ? "README.md holds" : wrong + " things in README.md don't hold");
        if (wrong != 0) {
            System.exit(1);
        }
    }

    private static void must(boolean holds, String what) {
        if (!holds) {
            wrong++;
            System.out.println("not so: " + what);
        }
    }

    private static void examples(String page) throws Exception {
        int found = 0;
        for (Matcher example = EXAMPLE.matcher(page); example.find(); found++) {
            List<String> due = new ArrayList<>();
            for (Matcher line = PRINTED.matcher(example.group(1)); line.find();) {
                due.add(line.group(1));
            }
            Matcher name = CLASS.matcher(example.group(1));
            must(name.find() && !due.isEmpty(), "an example is a class that prints something");
            List<String> got = printed(name.group(1), example.group(1));
            must(got.equals(due), name.group(1) + " prints " + due + ", but it printed " + got);
        }
        must(found == 2, "two examples");
    }

    private static List<String> printed(String name, String code) throws Exception {
        Path folder = Files.createTempDirectory("readme");
        PrintStream out = System.out;
        ByteArrayOutputStream bytes = new ByteArrayOutputStream();
        try {
            Path file = folder.resolve(name + ".java");
            Files.write(file, code.getBytes(StandardCharsets.ISO_8859_1));
            JavaCompiler javac = ToolProvider.getSystemJavaCompiler();
            int failed = javac.run(null, null, null, "-d", folder.toString(), "src/main/java/NightCats.java", file.toString());
            must(failed == 0, name + " compiles");
            if (failed != 0) {
                return new ArrayList<>();
            }
            System.setOut(new PrintStream(bytes, true));
            try (URLClassLoader classes = new URLClassLoader(new URL[] {folder.toUri().toURL()}, null)) {
                classes.loadClass(name).getMethod("main", String[].class).invoke(null, (Object) new String[0]);
            }
        } finally {
            System.setOut(out);
            wipe(folder.toFile());
        }
        return Arrays.asList(bytes.toString().split("\\R"));
    }

    private static void wipe(File folder) throws IOException {
        for (File file : folder.listFiles()) {
            Files.delete(file.toPath());
        }
        Files.delete(folder.toPath());
    }

    private static void calls(String page) throws Exception {
        TreeMap<String, Method> face = new TreeMap<>();
        for (Method m : NightCats.class.getDeclaredMethods()) {
            if (Modifier.isPublic(m.getModifiers())) {
                face.put(m.getName(), m);
            }
        }
        Set<String> named = new TreeSet<>();
        for (Matcher row = CALL.matcher(page); row.find();) {
            Method m = face.get(row.group(1));
            must(named.add(row.group(1)), row.group(1) + " is named once");
            must(m != null, row.group(1) + " is a call");
            if (m != null) {
                int many = row.group(2).isEmpty() ? 0 : row.group(2).split(", ").length;
                must(many == m.getParameterCount(), row.group(1) + " has " + many + " arguments");
                others(m, row.group(3));
            }
        }
        must(named.equals(face.keySet()), "all calls are named: " + named);
        must(NightCats.NONE == -1, "NONE is -1");
    }

    /** Arguments that no call takes; a row without an answer is of a call that takes all. */
    private static void others(Method m, String due) throws Exception {
        boolean takesAll = m.getParameterCount() == 0 || m.getName().equals("feed");
        must(takesAll == (due == null), m.getName() + " has " + (takesAll ? "no others" : "others"));
        if (due == null) {
            return;
        }
        for (int odd : new int[] {Integer.MIN_VALUE, -3, 10000, Integer.MAX_VALUE}) {
            Object[] args = new Object[m.getParameterCount()];
            for (int i = 0; i < args.length; i++) {
                args[i] = m.getParameterTypes()[i] == boolean.class ? (Object) true : (Object) odd;
            }
            String got = m.invoke(new NightCats(), args).toString();
            must(got.equals(due.equals("NONE") ? "-1" : due), m.getName() + " of " + odd + " answers " + due + ", but it answered " + got);
        }
    }

    private static void tests(String page) {
        Set<String> named = new TreeSet<>();
        for (Matcher row = TEST.matcher(page); row.find();) {
            named.add(row.group(1) + ".java");
        }
        Set<String> there = new TreeSet<>(Arrays.asList(new File("src/test/java").list()));
        must(named.equals(there), "the tests are " + there + ", named are " + named);
        for (String path : new String[] {".ci/run", "src/test/support/Model.java", "src/test/edges", "../shared/tests", "../shared/DOC.md", "../shared/LANGUAGE.md"}) {
            must(new File(path).exists(), path + " is there");
        }
    }
}
