import java.lang.reflect.Method;
import java.lang.reflect.Modifier;
import java.util.ArrayList;
import java.util.Arrays;
import java.util.Comparator;
import java.util.List;
import java.util.Random;

/** Runs of 512 calls on a new object, drawn by fixed seeds, each answer compared with the model's. */
public final class RandomRunsTest {
    private static final int RUNS = 2500;
    private static final int CALLS = 512;
    private static final List<Method> OURS = new ArrayList<>();
    private static final List<Method> THEIRS = new ArrayList<>();
    private static final String[] READER = {"takes", "goes", "takes", "goes", "by", "hour", "let", "foretold"};
    private static final String[] LATE = {"hour", "years", "played", "undo", "foretold", "is"};
    private static final String[][] THEMES = {
        {},
        {"seen", "track", "fewest", "same"},
        {"piece", "joins", "dream", "back"},
        {"house", "cat", "match", "matched", "latest", "go", "let", "out", "hour"},
        {"book", "ledger", "let", "out", "years", "undo"},
        {"told", "which", "likely", "askNext", "said", "whose", "by"},
        {"years", "hour", "undo", "share", "foretold"},
        READER,
        LATE,
    };
    private static int wrong = 0;
    private static final java.util.TreeMap<String, java.util.TreeSet<Long>> ANSWERS = new java.util.TreeMap<>();

    public static void main(String[] args) throws Exception {
        for (Method m : NightCats.class.getDeclaredMethods()) {
            if (Modifier.isPublic(m.getModifiers())) {
                OURS.add(m);
            }
        }
        OURS.sort(Comparator.comparing(Method::getName));
        for (Method m : OURS) {
            Method theirs = Model.class.getDeclaredMethod(m.getName(), m.getParameterTypes());
            theirs.setAccessible(true);
            THEIRS.add(theirs);
        }
        int runs = args.length > 0 ? Integer.parseInt(args[0]) : RUNS;
        int from = args.length > 1 ? Integer.parseInt(args[1]) : 0;
        for (int run = from; run < from + runs && wrong < 5; run++) {
            new Run(run).go();
        }
        if (args.length > 2) {
            ANSWERS.forEach((name, set) -> System.out.println(name + " " + set.size() + " " + (set.size() < 30 ? set : "")));
        }
        System.out.println(wrong == 0 ? runs + " runs as the model has them" : wrong + " runs not as the model has them");
        if (wrong != 0) {
            System.exit(1);
        }
    }

    private static final class Run {
        final int number;
        final Random r;
        final NightCats ours = new NightCats();
        final Model model = new Model();
        final StringBuilder story = new StringBuilder();
        final boolean wild;
        final String[] theme;
        final int busy;
        int calls = 0;
        boolean failed = false;

        Run(int seed) {
            number = seed;
            r = new Random(seed * 7919L + 13);
            wild = seed % 10 == 9;
            theme = THEMES[seed % THEMES.length];
            busy = r.nextInt(4);
        }

        void go() throws Exception {
            if (r.nextInt(3) > 0) {
                furnish();
            }
            if (theme == LATE) {
                for (int i = 0; i < 165; i++) {
                    call("hour", 60);
                }
            }
            if (theme == READER) {
                call("image");
            }
            while (calls < CALLS && !failed) {
                int kind = r.nextInt(100);
                if (theme == READER && model.about(2) == 4) {
                    call("back");
                }
                if (kind < (theme == READER ? 30 : 8)) {
                    read(new RandomText(r).make());
                } else if (kind < 40) {
                    deed();
                } else {
                    any();
                }
            }
        }

        private void furnish() throws Exception {
            int n = 1 + r.nextInt(6);
            for (int i = 0; i < n; i++) {
                call("house", r.nextInt(10), r.nextInt(r.nextBoolean() ? 1000 : 30));
            }
            n = 1 + r.nextInt(6);
            for (int i = 0; i < n; i++) {
                call("cat", r.nextInt(10), r.nextInt(10));
            }
        }

        private void read(String all) throws Exception {
            byte[] bytes = all.getBytes(java.nio.charset.StandardCharsets.ISO_8859_1);
            int n = Math.min(bytes.length, 300);
            if (calls + 4 + n / 20 > CALLS) {
                return;
            }
            call("end", 0);
            for (int i = 0; i < n; i += 20) {
                int[] words = new int[5];
                for (int j = 0; j < 20; j++) {
                    int b = i + j < n ? bytes[i + j] & 255 : r.nextInt(256);
                    words[j / 4] = words[j / 4] << 8 | b;
                }
                call("feed", words[0], words[1], words[2], words[3], words[4]);
            }
            call("end", n);
            long number = call("text");
            call("fault", 0);
            call("fault", 1);
            if (number >= 0 && (theme == READER || r.nextBoolean())) {
                call("by", (int) number);
            }
            if (number >= 0 && r.nextBoolean()) {
                call("played", (int) number);
            }
        }

        private void deed() throws Exception {
            int cats = model.about(1);
            int houses = model.about(0);
            switch (r.nextInt(12)) {
                case 0:
                case 1:
                case 2:
                    for (int c = 0; c < cats; c++) {
                        for (int h = 0; h < houses; h++) {
                            if (model.far(c, h) == 0 && calls < CALLS && r.nextBoolean()) {
                                call("let", c, h);
                            }
                        }
                    }
                    break;
                case 3:
                    call("out", r.nextInt(6));
                    break;
                case 4:
                case 5:
                    call("hour", 1 + r.nextInt(busy == 0 ? 60 : 3));
                    break;
                case 6:
                    call("years", r.nextInt(10000), 1 + r.nextInt(40));
                    break;
                case 7:
                    int n = 1 + r.nextInt(r.nextInt(6) == 0 ? 32 : 3);
                    for (int i = 0; i < n && calls < CALLS; i++) {
                        call("undo");
                    }
                    break;
                case 8:
                    if (houses > 0 && cats > 0 && calls < CALLS) {
                        int h = r.nextInt(houses);
                        call("told", h, Math.max(0, model.takes(r.nextInt(cats), h)));
                    }
                    break;
                case 9:
                    if (houses > 0 && cats > 0 && calls < CALLS) {
                        int h = r.nextInt(houses);
                        int c = r.nextInt(cats);
                        call("said", c, h, Math.max(0, model.takes(c, h)));
                    }
                    break;
                case 10:
                    if (r.nextInt(8) == 0) {
                        call(r.nextInt(3) > 0 ? "image" : "back");
                    }
                    break;
                default:
                    call("go", r.nextInt(6), r.nextInt(2));
            }
        }

        private void any() throws Exception {
            String name = theme.length > 0 && r.nextInt(2) == 0 ? theme[r.nextInt(theme.length)] : OURS.get(r.nextInt(OURS.size())).getName();
            Method m = OURS.get(indexOf(name));
            int[] args = new int[m.getParameterCount()];
            for (int k = 0; k < args.length; k++) {
                args[k] = argument(m.getName(), k);
            }
            if ((name.equals("image") || name.equals("back")) && r.nextInt(6) > 0) {
                return;
            }
            if (m.getName().equals("feed") && r.nextInt(4) > 0) {
                return;
            }
            call(m.getName(), args);
        }

        private int argument(String name, int k) {
            if (wild && r.nextInt(6) == 0) {
                int[] odd = {Integer.MIN_VALUE, Integer.MAX_VALUE, -1, -2, 1 << 31, 65536, 1000, 9999, 10000, 61, 60, 41, 40};
                return odd[r.nextInt(odd.length)];
            }
            switch (name) {
                case "seen":
                    return k == 0 ? (r.nextInt(12) == 0 ? r.nextInt(140) - 20 : r.nextInt(40) == 0 ? -1 : r.nextInt(12)) : r.nextInt(11);
                case "piece":
                    return k == 0 ? r.nextInt(6) : r.nextInt(r.nextInt(3) + 1) * r.nextInt(9);
                case "house":
                    return k == 0 ? r.nextInt(11) : r.nextInt(1020) - 10;
                case "cat":
                    return r.nextInt(12) - 1;
                case "price":
                case "game":
                case "play":
                    return r.nextInt(15) - 1;
                case "chances":
                    return r.nextInt(11) - 1;
                case "years":
                    return k == 0 ? r.nextInt(10100) - 50 : r.nextInt(43) - 1;
                case "hour":
                    return r.nextInt(63) - 1;
                case "foretold":
                    return k == 0 ? r.nextInt(63) - 1 : k == 1 ? r.nextInt(3) : r.nextInt(7) - 1;
                case "book":
                    return k == 0 ? r.nextInt(28) - 2 : r.nextInt(6) - 1;
                case "end":
                    return r.nextInt(320) - 10;
                case "feed":
                    return r.nextInt();
                case "at":
                case "about":
                case "track":
                case "same":
                    return r.nextInt(12) - 1;
                case "told":
                    return k == 0 ? (r.nextInt(4) == 0 ? -1 : r.nextInt(7)) : r.nextInt(103) - 2;
                case "said":
                    return k < 2 ? r.nextInt(8) - 1 : r.nextInt(103) - 2;
                default:
                    return r.nextInt(8) - 1;
            }
        }

        private static int indexOf(String name) {
            int i = 0;
            while (!OURS.get(i).getName().equals(name)) {
                i++;
            }
            return i;
        }

        private long call(String name, int... values) throws Exception {
            int i = indexOf(name);
            Method m = OURS.get(i);
            Object[] args = new Object[values.length];
            for (int k = 0; k < args.length; k++) {
                args[k] = m.getParameterTypes()[k] == boolean.class ? (Object) ((values[k] & 1) == 0) : (Object) values[k];
            }
            if (calls >= CALLS || failed) {
                return -1;
            }
            calls++;
            long due = number(THEIRS.get(i).invoke(model, args));
            long got = number(m.invoke(ours, args));
            ANSWERS.computeIfAbsent(name, k -> new java.util.TreeSet<>()).add(due);
            story.append(name).append(Arrays.toString(args)).append(" -> ").append(due).append('\n');
            if (got != due) {
                failed = true;
                wrong++;
                System.out.println("run " + number + ", call " + calls + ": " + name + Arrays.toString(args) + " answered " + got + ", the model " + due);
                if (wrong == 1) {
                    System.out.println(story);
                }
            }
            return due;
        }

        private static long number(Object answer) {
            return answer instanceof Boolean ? ((Boolean) answer ? 1 : 0) : ((Number) answer).longValue();
        }
    }
}
