import java.util.ArrayDeque;
import java.util.ArrayList;
import java.util.Arrays;
import java.util.Deque;
import java.util.HashSet;
import java.util.List;
import java.util.Set;

/** A text read by a stack of what is yet to come; its laws are kept as tokens and reckoned from them each time. */
final class ModelText {
    private static final Set<String> NAMES =
            new HashSet<>(Arrays.asList("hour", "who", "cold", "taken", "place", "dream", "came", "inside"));
    private static final Set<String> COMPARE = new HashSet<>(Arrays.asList("<", "<=", ">", ">=", "=", "#"));

    int fault;
    int faultAt = -1;
    List<String[]> deeds = new ArrayList<>();
    String[] takes;
    String[] goes;

    private final List<String> tokens = new ArrayList<>();
    private final List<Integer> starts = new ArrayList<>();

    ModelText(byte[] tape) {
        split(new String(tape, java.nio.charset.StandardCharsets.ISO_8859_1));
        check();
        if (fault == 0) {
            collect();
        }
    }

    private void split(String all) {
        int i = 0;
        while (i < all.length()) {
            int n = 1;
            char c = all.charAt(i);
            if (c == ' ' || c == '\n') {
                i++;
                continue;
            }
            String rest = all.substring(i);
            for (String pattern : new String[] {"[a-zA-Z]+", "[0-9]+", "<=", ">="}) {
                java.util.regex.Matcher m = java.util.regex.Pattern.compile(pattern).matcher(rest);
                if (m.lookingAt()) {
                    n = m.end();
                }
            }
            tokens.add(all.substring(i, i + n));
            starts.add(i);
            i += n;
        }
        tokens.add("");
        starts.add(all.length());
    }

    private static boolean isNumber(String t) {
        return !t.isEmpty() && Character.isDigit(t.charAt(0));
    }

    /** Symbols in capitals are parts of the grammar, "n:a:b" a number from a to b, "-1" closes an opener; all else stands for itself. */
    private void check() {
        Deque<String> due = new ArrayDeque<>();
        int open = 0;
        int clauses = 0;
        Set<String> laws = new HashSet<>();
        String law = "";
        for (int i = 0; i < tokens.size(); i++) {
            String t = tokens.get(i);
            boolean used = false;
            while (!used) {
                if (due.isEmpty()) {
                    if (t.isEmpty()) {
                        return;
                    }
                    String[] body = bodyOf(t);
                    if (body == null) {
                        blame(1, i);
                        return;
                    }
                    if (!laws.add(t) && (t.equals("takes") || t.equals("goes"))) {
                        blame(4, i);
                        return;
                    }
                    if (++clauses > 24) {
                        blame(6, i);
                        return;
                    }
                    law = t;
                    push(due, body);
                    used = true;
                    continue;
                }
                String top = due.pop();
                switch (top) {
                    case "close":
                        open--;
                        break;
                    case "SUM":
                        push(due, "PRODUCT", "MORE");
                        break;
                    case "MORE":
                        if (t.equals("+") || t.equals("-")) {
                            push(due, "PRODUCT", "MORE");
                            used = true;
                        }
                        break;
                    case "PRODUCT":
                        push(due, "ONE", "TIMES");
                        break;
                    case "TIMES":
                        if (t.equals("*") || t.equals("/")) {
                            push(due, "ONE", "TIMES");
                            used = true;
                        }
                        break;
                    case "EITHER":
                        push(due, "BOTH", "ORS");
                        break;
                    case "ORS":
                        if (t.equals("or")) {
                            push(due, "BOTH", "ORS");
                            used = true;
                        }
                        break;
                    case "BOTH":
                        push(due, "ASK", "ANDS");
                        break;
                    case "ANDS":
                        if (t.equals("and")) {
                            push(due, "ASK", "ANDS");
                            used = true;
                        }
                        break;
                    case "ASK":
                        if (!t.equals("not")) {
                            push(due, "SUM", "COMPARE", "SUM");
                            break;
                        }
                        if (++open > 8) {
                            blame(3, i);
                            return;
                        }
                        push(due, "ASK", "close");
                        used = true;
                        break;
                    case "COMPARE":
                        if (!COMPARE.contains(t)) {
                            blame(1, i);
                            return;
                        }
                        used = true;
                        break;
                    case "ONE":
                        String[] inside = insideOf(t);
                        if (inside != null) {
                            if (++open > 8) {
                                blame(3, i);
                                return;
                            }
                            push(due, inside);
                        } else if (isNumber(t)) {
                            if (!fits(t, 0, 9999)) {
                                blame(2, i);
                                return;
                            }
                        } else if (!NAMES.contains(t)) {
                            blame(1, i);
                            return;
                        } else if (law.equals("goes") ? t.equals("dream") || t.equals("came") : t.equals("inside")) {
                            blame(5, i);
                            return;
                        }
                        used = true;
                        break;
                    default:
                        if (top.startsWith("n:")) {
                            if (!isNumber(t)) {
                                blame(1, i);
                                return;
                            }
                            String[] range = top.split(":");
                            if (!fits(t, Integer.parseInt(range[1]), Integer.parseInt(range[2]))) {
                                blame(2, i);
                                return;
                            }
                        } else if (!top.equals(t)) {
                            blame(1, i);
                            return;
                        }
                        used = true;
                }
            }
        }
    }

    private static boolean fits(String number, int low, int high) {
        java.math.BigInteger n = new java.math.BigInteger(number);
        return n.compareTo(java.math.BigInteger.valueOf(low)) >= 0 && n.compareTo(java.math.BigInteger.valueOf(high)) <= 0;
    }

    private void blame(int number, int token) {
        fault = number;
        faultAt = starts.get(token);
    }

    private static void push(Deque<String> due, String... symbols) {
        for (int i = symbols.length - 1; i >= 0; i--) {
            due.push(symbols[i]);
        }
    }

    private static String[] bodyOf(String word) {
        switch (word) {
            case "takes":
            case "goes":
                return new String[] {"SUM", ";"};
            case "house":
                return new String[] {"n:0:9", "dream", "n:0:999", ";"};
            case "cat":
                return new String[] {"n:0:9", "cold", "n:0:9", ";"};
            case "let":
                return new String[] {"n:0:5", "to", "n:0:5", ";"};
            case "out":
            case "up":
            case "down":
                return new String[] {"n:0:5", ";"};
            case "hour":
                return new String[] {"n:1:60", ";"};
            default:
                return null;
        }
    }

    private static String[] insideOf(String t) {
        switch (t) {
            case "(":
                return new String[] {"SUM", ")", "close"};
            case "-":
            case "chill":
                return new String[] {"ONE", "close"};
            case "turn":
                return new String[] {"ONE", "to", "ONE", "close"};
            case "if":
                return new String[] {"EITHER", "then", "SUM", "else", "SUM", "end", "close"};
            default:
                return null;
        }
    }

    private void collect() {
        List<String> clause = new ArrayList<>();
        for (String t : tokens) {
            if (!t.equals(";")) {
                clause.add(t);
                continue;
            }
            String[] row = clause.toArray(new String[0]);
            if (row[0].equals("takes")) {
                takes = row;
            } else if (row[0].equals("goes")) {
                goes = row;
            }
            deeds.add(row[0].equals("takes") || row[0].equals("goes") ? new String[] {"law"} : row);
            clause.clear();
        }
    }

    // ---- reckoning: from a token on, both sides of an if

    private String[] law;
    private int at;
    private Model.State s;
    private int cat;
    private int house;

    long value(String[] row, Model.State state, int who, int where) {
        law = row;
        at = 1;
        s = state;
        cat = who;
        house = where;
        return sum();
    }

    private boolean is(String t) {
        return at < law.length && law[at].equals(t);
    }

    private static long cut(long v) {
        return v > 1000000 ? 1000000 : v < -1000000 ? -1000000 : v;
    }

    private long sum() {
        long v = product();
        while (is("+") || is("-")) {
            boolean plus = is("+");
            at++;
            long other = product();
            v = cut(plus ? v + other : v - other);
        }
        return v;
    }

    private long product() {
        long v = one();
        while (is("*") || is("/")) {
            boolean times = is("*");
            at++;
            long other = one();
            v = cut(times ? v * other : other == 0 ? 0 : (long) ((double) v / other));
        }
        return v;
    }

    private long one() {
        String t = law[at++];
        if (isNumber(t)) {
            return Long.parseLong(t);
        }
        long a;
        long b;
        Model.Cat c = s.cats.get(cat);
        switch (t) {
            case "(":
                a = sum();
                at++;
                return a;
            case "-":
                return -one();
            case "turn":
                a = one();
                at++;
                b = one();
                return turned((int) (Math.abs(a) % 10), (int) (Math.abs(b) % 10));
            case "chill":
                a = one();
                return a >= 0 && a < s.cats.size() ? s.cats.get((int) a).cold : 0;
            case "if":
                boolean yes = either();
                at++;
                a = sum();
                at++;
                b = sum();
                at++;
                return yes ? a : b;
            case "hour":
                return s.hour;
            case "who":
                return cat;
            case "cold":
                return c.cold;
            case "taken":
                return c.taken;
            case "place":
                return c.home == -1 ? c.place : s.houses.get(c.home).door;
            case "inside":
                return c.home == -1 ? 0 : 1;
            case "dream":
                return s.houses.get(house).dream;
            case "came":
                return s.houses.get(house).came;
            default:
                throw new IllegalStateException(t);
        }
    }

    private static long turned(int from, int to) {
        int up = 0;
        while ((from + up) % 10 != to) {
            up++;
        }
        return up;
    }

    private boolean either() {
        boolean v = both();
        while (is("or")) {
            at++;
            boolean other = both();
            v = v || other;
        }
        return v;
    }

    private boolean both() {
        boolean v = ask();
        while (is("and")) {
            at++;
            boolean other = ask();
            v = v && other;
        }
        return v;
    }

    private boolean ask() {
        if (is("not")) {
            at++;
            return !ask();
        }
        long a = sum();
        String sign = law[at++];
        long b = sum();
        switch (sign) {
            case "<":
                return a < b;
            case "<=":
                return a <= b;
            case ">":
                return a > b;
            case ">=":
                return a >= b;
            case "=":
                return a == b;
            default:
                return a != b;
        }
    }
}
