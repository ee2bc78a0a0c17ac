import java.lang.reflect.Constructor;
import java.lang.reflect.Field;
import java.lang.reflect.Method;
import java.lang.reflect.Modifier;
import java.nio.charset.StandardCharsets;
import java.nio.file.Files;
import java.nio.file.Paths;
import java.util.Arrays;
import java.util.Set;
import java.util.TreeSet;
import java.util.regex.Matcher;
import java.util.regex.Pattern;

/** The public face as the document has it, and what of LANGUAGE.md can be seen from the class and its lines. */
public final class FaceTest {
    private static final String FACE = "int house(int, int)|int cat(int, int)|int feed(int, int, int, int, int)|int end(int)|int text()|int fault(int)"
            + "|boolean by(int)|boolean let(int, int)|int out(int)|boolean go(int, boolean)|int hour(int)|int played(int)|int years(int, int)|int undo()"
            + "|int of(int, int)|int ofHouse(int, int)|int takes(int, int)|int goes(int)|int is(int)|int book(int, int)|int foretold(int, int, int)"
            + "|int far(int, int)|int match(int)|int matched(int)|int latest(int)|long orders()|int order(int)|int seen(int, int)|int fewest()"
            + "|int track(int)|boolean same(int, int)|int told(int, int)|int which()|long likely(int, boolean)|int askNext()|int piece(int, int)"
            + "|int joins(int)|long dream()|int price(int)|long chances(int, int, boolean)|int game(int, int)|int play(int, int)|int said(int, int, int)"
            + "|int whose()|int nearest(int)|int at(int)|int gap()|int share(int, boolean)|int coldest()|int dreamless()|int free()|int ledger(int)"
            + "|int image()|int back()|int about(int)";
    private static int wrong = 0;

    public static void main(String[] args) throws Exception {
        face();
        classes();
        lines(new String(Files.readAllBytes(Paths.get("src/main/java/NightCats.java")), StandardCharsets.ISO_8859_1));
        System.out.println(wrong == 0 ? "the face and the language are kept" : wrong + " rules are not kept");
        if (wrong != 0) {
            System.exit(1);
        }
    }

    private static void must(boolean holds, String rule) {
        if (!holds) {
            wrong++;
            System.out.println("not kept: " + rule);
        }
    }

    private static void face() {
        Set<String> due = new TreeSet<>(Arrays.asList(FACE.split("\\|")));
        Set<String> got = new TreeSet<>();
        for (Method m : NightCats.class.getDeclaredMethods()) {
            if (!Modifier.isPrivate(m.getModifiers())) {
                String all = Arrays.toString(m.getParameterTypes());
                must(Modifier.isPublic(m.getModifiers()) && !Modifier.isStatic(m.getModifiers()), "public: " + m);
                got.add(m.getReturnType() + " " + m.getName() + "(" + all.substring(1, all.length() - 1) + ")");
            }
        }
        must(due.size() == 55 && got.equals(due), "the face: " + got);
        must(NightCats.class.getModifiers() == (Modifier.PUBLIC | Modifier.FINAL), "public and final");
        Constructor<?>[] made = NightCats.class.getDeclaredConstructors();
        must(made.length == 1 && Modifier.isPublic(made[0].getModifiers()) && made[0].getParameterCount() == 0, "one constructor");
        for (Field f : NightCats.class.getDeclaredFields()) {
            must(Modifier.isPrivate(f.getModifiers()) || f.getName().equals("NONE"), "private: " + f);
        }
    }

    private static void classes() {
        Set<String> open = new TreeSet<>();
        for (Method m : NightCats.class.getDeclaredMethods()) {
            if (Modifier.isPublic(m.getModifiers())) {
                open.add(m.getName());
            }
        }
        Class<?>[] inside = NightCats.class.getDeclaredClasses();
        must(inside.length + 1 <= 12, "some twelve classes");
        look(NightCats.class, open);
        for (Class<?> c : inside) {
            must(Modifier.isStatic(c.getModifiers()), "static: " + c);
            must(!Modifier.isPublic(c.getModifiers()) && !Modifier.isProtected(c.getModifiers()), "private or package-visible: " + c);
            must(c.getDeclaredClasses().length == 0, "no class deeper inside: " + c);
            look(c, open);
        }
    }

    private static void look(Class<?> c, Set<String> open) {
        int fields = 0;
        for (Field f : c.getDeclaredFields()) {
            boolean fixed = Modifier.isStatic(f.getModifiers());
            fields += fixed ? 0 : 1;
            must(!fixed || Modifier.isFinal(f.getModifiers()), "static is final: " + f);
        }
        must(fields <= 20, "some twenty fields: " + c);
        for (Method m : c.getDeclaredMethods()) {
            must(!m.isSynthetic(), "no lambda: " + m);
            must(m.getParameterCount() <= 7, "seven parameters: " + m);
            must(c == NightCats.class && Modifier.isPublic(m.getModifiers()) || !open.contains(m.getName()), "no private one has a public one's name: " + m);
        }
    }

    private static void lines(String all) {
        for (char sign : all.toCharArray()) {
            must(sign == '\n' || sign >= ' ' && sign < 127, "plain signs");
        }
        String code = all.replaceAll("(?s)/\\*.*?\\*/", "").replaceAll("//[^\n]*", "").replaceAll("'.'", "0");
        String bare = code.replaceAll("\"[^\"\n]*\"", "TEXT");
        String[] barred = {"throws?", "try", "catch", "finally", "assert", "synchronized", "import", "package", "instanceof", "var", "float", "double",
            "Object", "yield", "record", "interface", "enum", "\\w+Exact", "System\\.(?!arraycopy)\\w+", "Integer\\.(?!bitCount)\\w+",
            "Math\\.(?!max|min|abs)\\w+"};
        for (String word : barred) {
            must(!Pattern.compile("\\b" + word + "\\b").matcher(bare).find(), "none of " + word);
        }
        must(!bare.contains("->") && !bare.contains("::"), "no lambda, no method reference");
        must(!bare.contains("TEXT +") && !bare.contains("+ TEXT"), "no texts joined by +");
        must(!Pattern.compile("\\bstatic\\s*\\{").matcher(bare).find(), "no static initialiser");
        lengths(bare);
    }

    private static void lengths(String code) {
        Matcher m = Pattern.compile("(?m)^ +(?!if|for|while|switch|else|return|new)[\\w<>\\[\\] ]+\\([^;{}]*\\) \\{\n").matcher(code);
        int methods = 0;
        while (m.find()) {
            int open = 1;
            int at = m.end();
            int lines = 1;
            while (open > 0) {
                char sign = code.charAt(at++);
                open += sign == '{' ? 1 : sign == '}' ? -1 : 0;
                lines += sign == '\n' ? 1 : 0;
            }
            methods++;
            must(lines <= 60, "some sixty lines: " + m.group().trim());
        }
        must(methods > 100, "methods found: " + methods);
    }
}
