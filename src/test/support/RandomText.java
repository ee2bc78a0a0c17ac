import java.util.Random;

/** Texts that are mostly whole, some broken in one place. */
final class RandomText {
    private static final String[] STRAY = {"takes", "goes", "house", "cat", "let", "out", "up", "down", "hour", "dream", "cold", "to",
        "turn", "chill", "if", "then", "else", "end", "or", "and", "not", "who", "taken", "place", "came", "inside", "Takes", "nob",
        "x", "0", "5", "61", "9999", "10000", "123456789012345678901234567890", "<", "<=", ">", ">=", "=", "#", "+", "-", "*", "/", "(", ")", ";",
        "&", ".", "\t", "\r", "\0", "\u00ff", "<>", "=<", "=="};
    private final Random r;

    RandomText(Random random) {
        r = random;
    }

    String make() {
        StringBuilder b = new StringBuilder();
        int kind = r.nextInt(10);
        if (kind == 0) {
            return crowd();
        }
        if (kind == 1) {
            return deep();
        }
        boolean takes = r.nextInt(4) > 0;
        boolean goes = r.nextInt(4) > 0;
        int deeds = r.nextInt(9);
        for (int i = 0; i < deeds + 2; i++) {
            if (takes && r.nextInt(3) == 0) {
                b.append("takes ").append(sum(r.nextInt(5), true)).append(";");
                takes = r.nextInt(20) == 0;
            } else if (goes && r.nextInt(3) == 0) {
                b.append("goes ").append(sum(r.nextInt(5), false)).append(";");
                goes = r.nextInt(20) == 0;
            } else {
                b.append(deed());
            }
            if (r.nextInt(8) == 0) {
                b.append(r.nextBoolean() ? " " : "\n");
            }
        }
        String all = b.toString();
        return r.nextInt(3) == 0 ? broken(all) : all;
    }

    private String crowd() {
        StringBuilder b = new StringBuilder();
        int n = 22 + r.nextInt(4);
        for (int i = 0; i < n; i++) {
            b.append(i % 3 == 0 ? "out 0;" : i % 3 == 1 ? "up " + r.nextInt(6) + ";" : "let " + r.nextInt(3) + " to 0;");
        }
        String[] last = {"takes 1;", "goes 1;", "nob;", "up 6;", "takes 1;takes 2;", ""};
        return b + last[r.nextInt(last.length)];
    }

    private String deep() {
        StringBuilder b = new StringBuilder(r.nextBoolean() ? "takes " : "goes ");
        StringBuilder behind = new StringBuilder();
        int n = 5 + r.nextInt(6);
        for (int i = 0; i < n; i++) {
            switch (r.nextInt(5)) {
                case 0:
                    b.append("(");
                    behind.insert(0, ")");
                    break;
                case 1:
                    b.append("-");
                    break;
                case 2:
                    b.append("chill ");
                    break;
                case 3:
                    b.append(r.nextBoolean() ? "turn " : "turn -who to ");
                    behind.insert(0, b.charAt(b.length() - 2) == 'n' ? " to 7" : "");
                    break;
                default:
                    boolean not = r.nextBoolean();
                    b.append(not ? "if not " : "if 2<3 and ");
                    behind.insert(0, ">cold then 1 else 2 end");
            }
        }
        return b + "3" + behind + ";";
    }

    private String broken(String all) {
        String[] tokens = all.split("(?<=[^a-z0-9])|(?=[^a-z0-9])");
        int i = r.nextInt(tokens.length);
        switch (r.nextInt(4)) {
            case 0:
                tokens[i] = "";
                break;
            case 1:
                tokens[i] = STRAY[r.nextInt(STRAY.length)];
                break;
            case 2:
                tokens[i] += " " + STRAY[r.nextInt(STRAY.length)];
                break;
            default:
                return all.substring(0, r.nextInt(all.length() + 1));
        }
        return String.join("", tokens);
    }

    private String deed() {
        switch (r.nextInt(8)) {
            case 0:
                return "house " + r.nextInt(10) + " dream " + r.nextInt(r.nextInt(3) == 0 ? 1000 : 40) + ";";
            case 1:
                return "cat " + r.nextInt(10) + " cold " + r.nextInt(10) + ";";
            case 2:
            case 3:
                return "let " + r.nextInt(6) + " to " + r.nextInt(6) + ";";
            case 4:
                return "out " + r.nextInt(6) + ";";
            case 5:
                return "up " + r.nextInt(6) + ";";
            case 6:
                return "down " + r.nextInt(6) + ";";
            default:
                return "hour " + (1 + r.nextInt(r.nextInt(4) == 0 ? 60 : 4)) + ";";
        }
    }

    private String sum(int left, boolean takes) {
        String s = product(left, takes);
        while (r.nextInt(4) == 0) {
            s += (r.nextBoolean() ? "+" : "-") + product(left - 1, takes);
        }
        return s;
    }

    private String product(int left, boolean takes) {
        String s = one(left, takes);
        while (r.nextInt(5) == 0) {
            s += (r.nextBoolean() ? "*" : "/") + one(left - 1, takes);
        }
        return s;
    }

    private String one(int left, boolean takes) {
        int kind = left <= 0 ? r.nextInt(2) : r.nextInt(8);
        switch (kind) {
            case 0:
                return String.valueOf(r.nextInt(r.nextInt(6) == 0 ? 10000 : 12));
            case 1:
            case 2:
                String[] names = takes ? new String[] {"hour", "who", "cold", "taken", "place", "dream", "came"}
                        : new String[] {"hour", "who", "cold", "taken", "place", "inside"};
                return " " + names[r.nextInt(names.length)] + " ";
            case 3:
                return "(" + sum(left - 1, takes) + ")";
            case 4:
                return "-" + one(left - 1, takes);
            case 5:
                return " turn " + one(left - 1, takes) + " to " + one(left - 1, takes);
            case 6:
                return " chill " + one(left - 1, takes);
            default:
                return " if " + either(left - 1, takes) + " then " + sum(left - 1, takes) + " else " + sum(left - 1, takes) + " end ";
        }
    }

    private String either(int left, boolean takes) {
        String s = both(left, takes);
        while (r.nextInt(4) == 0) {
            s += " or " + both(left, takes);
        }
        return s;
    }

    private String both(int left, boolean takes) {
        String s = ask(left, takes);
        while (r.nextInt(4) == 0) {
            s += " and " + ask(left, takes);
        }
        return s;
    }

    private String ask(int left, boolean takes) {
        if (r.nextInt(5) == 0) {
            return " not " + ask(left - 1, takes);
        }
        String[] signs = {"<", "<=", ">", ">=", "=", "#"};
        return sum(left - 1, takes) + signs[r.nextInt(6)] + sum(left - 1, takes);
    }
}
