import java.util.ArrayList;
import java.util.Arrays;
import java.util.List;

/**
 * The document once more, written for plainness alone: whole copies of all there is, every way tried.
 * What it answers is compared with what NightCats answers.
 */
final class Model {
    static final int NONE = -1;

    static final class House {
        int door;
        int told;
        int dream;
        int came;

        House copy() {
            House h = new House();
            h.door = door;
            h.told = told;
            h.dream = dream;
            h.came = came;
            return h;
        }
    }

    static final class Cat {
        int told;
        int place;
        int cold;
        int home = NONE;
        int taken;

        Cat copy() {
            Cat c = new Cat();
            c.told = told;
            c.place = place;
            c.cold = cold;
            c.home = home;
            c.taken = taken;
            return c;
        }
    }

    static final class State {
        List<House> houses = new ArrayList<>();
        List<Cat> cats = new ArrayList<>();
        List<int[]> book = new ArrayList<>();
        int hour;
        int x = 397;

        State copy() {
            State s = new State();
            houses.forEach(h -> s.houses.add(h.copy()));
            cats.forEach(c -> s.cats.add(c.copy()));
            book.forEach(b -> s.book.add(b.clone()));
            s.hour = hour;
            s.x = x;
            return s;
        }
    }

    static final class World {
        State s = new State();
        List<State> steps = new ArrayList<>();
        List<ModelText> texts = new ArrayList<>();
        ModelText ruling;
        int by = NONE;
        List<int[]> sights = new ArrayList<>();
        List<int[]> told = new ArrayList<>();
        List<int[]> pieces = new ArrayList<>();
        List<int[]> said = new ArrayList<>();

        World copy() {
            World w = new World();
            w.s = s.copy();
            steps.forEach(t -> w.steps.add(t.copy()));
            w.texts.addAll(texts);
            w.ruling = ruling;
            w.by = by;
            w.sights.addAll(sights);
            w.told.addAll(told);
            w.pieces.addAll(pieces);
            w.said.addAll(said);
            return w;
        }
    }

    private World w = new World();
    private World kept = new World();
    private byte[] tape = new byte[0];
    private int fault = NONE;
    private int faultAt = NONE;

    private boolean isCat(int c) {
        return c >= 0 && c < w.s.cats.size();
    }

    private boolean isHouse(int h) {
        return h >= 0 && h < w.s.houses.size();
    }

    private static boolean in(int n, int a, int b) {
        return n >= a && n <= b;
    }

    int house(int door, int dream) {
        if (!in(door, 0, 9) || !in(dream, 0, 999) || w.s.houses.size() == 6) {
            return NONE;
        }
        House h = new House();
        h.door = door;
        h.told = dream;
        h.dream = dream;
        w.s.houses.add(h);
        return w.s.houses.size() - 1;
    }

    int cat(int place, int cold) {
        if (!in(place, 0, 9) || !in(cold, 0, 9) || w.s.cats.size() == 6) {
            return NONE;
        }
        Cat c = new Cat();
        c.told = place;
        c.place = place;
        c.cold = cold;
        w.s.cats.add(c);
        return w.s.cats.size() - 1;
    }

    int feed(int a, int b, int c, int d, int e) {
        if (tape.length > 280) {
            return NONE;
        }
        byte[] longer = Arrays.copyOf(tape, tape.length + 20);
        int[] words = {a, b, c, d, e};
        for (int i = 0; i < 20; i++) {
            longer[tape.length + i] = (byte) (words[i / 4] >> (24 - 8 * (i % 4)));
        }
        tape = longer;
        return tape.length;
    }

    int end(int n) {
        if (n < 0 || n > tape.length) {
            return NONE;
        }
        tape = Arrays.copyOf(tape, n);
        return n;
    }

    int text() {
        if (w.texts.size() == 4) {
            return NONE;
        }
        ModelText t = new ModelText(tape);
        tape = new byte[0];
        fault = t.fault;
        faultAt = t.faultAt;
        if (t.fault != 0) {
            return NONE;
        }
        w.texts.add(t);
        return w.texts.size() - 1;
    }

    int fault(int what) {
        return what == 0 ? fault : what == 1 ? faultAt : NONE;
    }

    boolean by(int text) {
        if (text == NONE) {
            w.by = NONE;
            w.ruling = null;
            return true;
        }
        if (!in(text, 0, w.texts.size() - 1)) {
            return false;
        }
        w.by = text;
        w.ruling = w.texts.get(text);
        return true;
    }

    private void step() {
        w.steps.add(w.s.copy());
        if (w.steps.size() > 30) {
            w.steps.remove(0);
        }
    }

    private void write(int cat, int house, int what) {
        w.s.book.add(new int[] {w.s.hour, cat, house, what});
        if (w.s.book.size() > 25) {
            w.s.book.remove(0);
        }
    }

    private int guest(int house) {
        for (int c = 0; c < w.s.cats.size(); c++) {
            if (w.s.cats.get(c).home == house) {
                return c;
            }
        }
        return NONE;
    }

    private boolean canLet(int cat, int house) {
        return isCat(cat) && isHouse(house) && w.s.cats.get(cat).home == NONE && guest(house) == NONE
                && w.s.cats.get(cat).place == w.s.houses.get(house).door;
    }

    private void letIn(int cat, int house) {
        w.s.cats.get(cat).home = house;
        w.s.houses.get(house).came = Math.min(999, w.s.houses.get(house).came + 1);
        write(cat, house, 0);
    }

    private void putOut(int house) {
        Cat cat = w.s.cats.get(guest(house));
        write(guest(house), house, 1);
        cat.home = NONE;
        cat.place = w.s.houses.get(house).door;
    }

    private void gone(int cat, boolean up) {
        Cat c = w.s.cats.get(cat);
        c.place = up ? (c.place == 9 ? 0 : c.place + 1) : (c.place == 0 ? 9 : c.place - 1);
    }

    boolean let(int cat, int house) {
        if (!canLet(cat, house)) {
            return false;
        }
        step();
        letIn(cat, house);
        return true;
    }

    int out(int house) {
        if (!isHouse(house) || guest(house) == NONE) {
            return NONE;
        }
        int cat = guest(house);
        step();
        putOut(house);
        return cat;
    }

    boolean go(int cat, boolean up) {
        if (!isCat(cat) || w.s.cats.get(cat).home != NONE) {
            return false;
        }
        step();
        gone(cat, up);
        return true;
    }

    private int anHour() {
        int eaten = 0;
        for (int c = 0; c < w.s.cats.size(); c++) {
            Cat cat = w.s.cats.get(c);
            if (cat.home == NONE) {
                int x = draw();
                if (x % 3 == 1) {
                    gone(c, true);
                } else if (x % 3 == 2) {
                    gone(c, false);
                }
            } else {
                House house = w.s.houses.get(cat.home);
                int bite = Math.min(house.dream, takesBy(w.ruling, c, cat.home));
                house.dream -= bite;
                cat.taken = Math.min(9999, cat.taken + bite);
                eaten += bite;
                if (goesBy(w.ruling, c) > 0) {
                    write(c, cat.home, 2);
                    cat.place = house.door;
                    cat.home = NONE;
                }
            }
        }
        w.s.hour++;
        return eaten;
    }

    private int draw() {
        int x = w.s.x;
        w.s.x = (x * 647 + 509) % 30931;
        return x;
    }

    int hour(int n) {
        if (!in(n, 1, 60) || w.s.hour + n > 9999) {
            return NONE;
        }
        int sum = 0;
        for (int i = 0; i < n; i++) {
            step();
            sum += anHour();
        }
        return sum;
    }

    int played(int text) {
        if (!in(text, 0, w.texts.size() - 1)) {
            return -2;
        }
        int number = 0;
        for (String[] clause : w.texts.get(text).deeds) {
            if (!done(clause)) {
                return number;
            }
            number++;
        }
        return NONE;
    }

    private boolean done(String[] clause) {
        int a = clause.length > 1 ? Integer.parseInt(clause[1]) : 0;
        int b = clause.length > 3 ? Integer.parseInt(clause[3]) : 0;
        switch (clause[0]) {
            case "house":
                return house(a, b) != NONE;
            case "cat":
                return cat(a, b) != NONE;
            case "let":
                return let(a, b);
            case "out":
                return out(a) != NONE;
            case "up":
                return go(a, true);
            case "down":
                return go(a, false);
            case "hour":
                while (a > 0 && hour(1) != NONE) {
                    a--;
                }
                return a == 0;
            default:
                return true;
        }
    }

    int years(int seed, int n) {
        if (!in(seed, 0, 9999) || !in(n, 1, 40)) {
            return NONE;
        }
        step();
        w.s.x = seed * 2 + 397;
        int houses = w.s.houses.size();
        int cats = w.s.cats.size();
        for (int i = 0; i < n; i++) {
            int x = draw();
            int how = x % 6;
            if (how >= 4 && w.s.hour < 9999) {
                anHour();
            } else if (how <= 1 && houses > 0 && cats > 0 && canLet(x / 6 % cats, x % houses)) {
                letIn(x / 6 % cats, x % houses);
            } else if (how == 2 && houses > 0 && guest(x % houses) != NONE) {
                putOut(x % houses);
            } else if (how == 3 && cats > 0 && w.s.cats.get(x / 6 % cats).home == NONE) {
                gone(x / 6 % cats, (x / 6) % 2 == 0);
            }
        }
        return w.s.hour;
    }

    int undo() {
        if (w.steps.isEmpty()) {
            return NONE;
        }
        State old = w.steps.remove(w.steps.size() - 1);
        for (int c = old.cats.size(); c < w.s.cats.size(); c++) {
            Cat cat = w.s.cats.get(c).copy();
            cat.place = cat.told;
            cat.home = NONE;
            cat.taken = 0;
            old.cats.add(cat);
        }
        for (int h = old.houses.size(); h < w.s.houses.size(); h++) {
            House house = w.s.houses.get(h).copy();
            house.dream = house.told;
            house.came = 0;
            old.houses.add(house);
        }
        w.s = old;
        return w.steps.size();
    }

    int of(int cat, int what) {
        if (!isCat(cat) || !in(what, 0, 3)) {
            return -2;
        }
        Cat c = w.s.cats.get(cat);
        return new int[] {c.place, c.cold, c.home, c.taken}[what];
    }

    int ofHouse(int house, int what) {
        if (!isHouse(house) || !in(what, 0, 3)) {
            return -2;
        }
        House h = w.s.houses.get(house);
        return new int[] {h.door, h.dream, guest(house), h.came}[what];
    }

    private int takesBy(ModelText text, int cat, int house) {
        if (text == null || text.takes == null) {
            return w.s.cats.get(cat).cold;
        }
        return (int) Math.max(0, Math.min(99, text.value(text.takes, w.s, cat, house)));
    }

    private int goesBy(ModelText text, int cat) {
        if (text == null || text.goes == null) {
            return 0;
        }
        return (int) Math.max(-99, Math.min(99, text.value(text.goes, w.s, cat, NONE)));
    }

    int takes(int cat, int house) {
        return isCat(cat) && isHouse(house) ? takesBy(w.ruling, cat, house) : -100;
    }

    int goes(int cat) {
        return isCat(cat) ? goesBy(w.ruling, cat) : -100;
    }

    int is(int what) {
        switch (what) {
            case 0:
                return w.s.hour;
            case 1:
                return w.s.x;
            case 2:
                return w.s.houses.stream().mapToInt(h -> h.dream).sum();
            case 3:
                return w.s.cats.stream().mapToInt(c -> c.taken).sum();
            default:
                return -2;
        }
    }

    int book(int i, int what) {
        if (i == NONE) {
            return w.s.book.size();
        }
        return in(i, 0, w.s.book.size() - 1) && in(what, 0, 3) ? w.s.book.get(i)[what] : -2;
    }

    int foretold(int n, int what, int which) {
        if (!in(n, 1, 60) || !(what == 0 && isCat(which) || what == 1 && isHouse(which))) {
            return NONE;
        }
        State before = w.s;
        w.s = before.copy();
        for (int i = 0; i < n && w.s.hour < 9999; i++) {
            anHour();
        }
        int answer = what == 0 ? of(which, 0) : ofHouse(which, 1);
        w.s = before;
        return answer;
    }

    int far(int cat, int house) {
        if (!isCat(cat) || !isHouse(house)) {
            return NONE;
        }
        return apart(w.s.cats.get(cat).place, w.s.houses.get(house).door);
    }

    static int apart(int a, int b) {
        int up = 0;
        while ((a + up) % 10 != b) {
            up++;
        }
        return Math.min(up, 10 - up);
    }

    /** Every way to pair, lowest first: who has house h, then the rest. */
    private void pair(int h, int[] who, int used, boolean farthest, int[] best, int[] bestWho) {
        if (h == w.s.houses.size()) {
            int many = 0;
            int steps = 0;
            for (int i = 0; i < h; i++) {
                if (who[i] != NONE) {
                    many++;
                    int own = far(who[i], i);
                    steps = farthest ? Math.max(steps, own) : steps + own;
                }
            }
            if (many > best[0] || many == best[0] && steps < best[1]) {
                best[0] = many;
                best[1] = steps;
                System.arraycopy(who, 0, bestWho, 0, h);
            }
            return;
        }
        who[h] = NONE;
        pair(h + 1, who, used, farthest, best, bestWho);
        for (int c = 0; c < w.s.cats.size(); c++) {
            if (guest(h) == NONE && w.s.cats.get(c).home == NONE && (used >> c & 1) == 0) {
                who[h] = c;
                pair(h + 1, who, used | 1 << c, farthest, best, bestWho);
            }
        }
        who[h] = NONE;
    }

    int match(int what) {
        int[] best = {NONE, 0};
        pair(0, new int[6], 0, false, best, new int[6]);
        return in(what, 0, 1) ? best[what] : NONE;
    }

    int matched(int house) {
        int[] who = new int[6];
        pair(0, new int[6], 0, false, new int[] {NONE, 0}, who);
        return isHouse(house) ? who[house] : NONE;
    }

    int latest(int what) {
        int[] best = {NONE, 0};
        pair(0, new int[6], 0, true, best, new int[6]);
        return in(what, 0, 1) ? best[what] : NONE;
    }

    /** All orders of the first n numbers, lowest first. */
    static List<int[]> permutations(int n) {
        List<int[]> all = new ArrayList<>();
        permute(new int[n], 0, all);
        return all;
    }

    private static void permute(int[] row, int k, List<int[]> all) {
        if (k == row.length) {
            all.add(row.clone());
            return;
        }
        for (int v = 0; v < row.length; v++) {
            boolean there = false;
            for (int j = 0; j < k; j++) {
                there |= row[j] == v;
            }
            if (!there) {
                row[k] = v;
                permute(row, k + 1, all);
            }
        }
    }

    private List<int[]> coldOrders() {
        List<int[]> fit = new ArrayList<>();
        for (int[] row : permutations(w.s.cats.size())) {
            boolean ok = true;
            for (int a = 0; a < row.length; a++) {
                for (int b = a + 1; b < row.length; b++) {
                    ok &= w.s.cats.get(row[b]).cold >= w.s.cats.get(row[a]).cold;
                }
            }
            if (ok) {
                fit.add(row);
            }
        }
        return fit;
    }

    long orders() {
        return coldOrders().size();
    }

    int order(int i) {
        return isCat(i) ? coldOrders().get(0)[i] : NONE;
    }

    private static int tell(List<int[]> list, int most, boolean clear, boolean fits, int... row) {
        if (clear) {
            list.clear();
            return 0;
        }
        if (!fits || list.size() == most) {
            return -2;
        }
        list.add(row);
        return list.size();
    }

    int seen(int hour, int place) {
        return tell(w.sights, 10, hour == NONE, in(hour, 0, 99) && in(place, 0, 9), hour, place);
    }

    private int[] lowestTrack() {
        int n = w.sights.size();
        for (int k = 0; k <= n; k++) {
            int[] row = new int[n];
            if (tryTrack(row, 0, k)) {
                return row;
            }
        }
        return new int[0];
    }

    /** The first of all rows of numbers below k that fits. */
    private boolean tryTrack(int[] row, int i, int k) {
        if (i == row.length) {
            return true;
        }
        int highest = NONE;
        for (int j = 0; j < i; j++) {
            highest = Math.max(highest, row[j]);
        }
        for (int c = 0; c < k && c <= highest + 1; c++) {
            boolean ok = true;
            for (int j = 0; j < i; j++) {
                ok &= row[j] != c || same(i, j);
            }
            if (ok) {
                row[i] = c;
                if (tryTrack(row, i + 1, k)) {
                    return true;
                }
            }
        }
        return false;
    }

    int fewest() {
        int most = 0;
        for (int c : lowestTrack()) {
            most = Math.max(most, c + 1);
        }
        return most;
    }

    int track(int i) {
        return in(i, 0, w.sights.size() - 1) ? lowestTrack()[i] : NONE;
    }

    boolean same(int a, int b) {
        if (!in(a, 0, w.sights.size() - 1) || !in(b, 0, w.sights.size() - 1)) {
            return false;
        }
        int[] s = w.sights.get(a);
        int[] t = w.sights.get(b);
        return apart(s[1], t[1]) <= Math.abs(s[0] - t[0]);
    }

    int told(int house, int gone) {
        return tell(w.told, 8, house == NONE, isHouse(house) && in(gone, 0, 99), house, gone);
    }

    int which() {
        int bits = 0;
        for (int c = 0; c < w.s.cats.size(); c++) {
            boolean all = true;
            for (int[] t : w.told) {
                all &= takes(c, t[0]) == t[1];
            }
            bits += all ? 1 << c : 0;
        }
        return bits;
    }

    private static long lowest(long a, long b, boolean low) {
        for (long d = b; d > 1; d--) {
            if (a % d == 0 && b % d == 0) {
                a /= d;
                b /= d;
            }
        }
        return low ? b : a;
    }

    long likely(int cat, boolean low) {
        int fits = which();
        if (!isCat(cat) || fits == 0) {
            return NONE;
        }
        if ((fits >> cat & 1) == 0) {
            return low ? 1 : 0;
        }
        long all = 0;
        for (int c = 0; c < 6; c++) {
            all += (fits >> c & 1) == 1 ? 10 - w.s.cats.get(c).cold : 0;
        }
        return lowest(10 - w.s.cats.get(cat).cold, all, low);
    }

    int askNext() {
        int fits = which();
        if (Integer.bitCount(fits) < 2) {
            return NONE;
        }
        int best = NONE;
        int least = 99;
        for (int h = 0; h < w.s.houses.size(); h++) {
            int[] many = new int[100];
            for (int c = 0; c < 6; c++) {
                if ((fits >> c & 1) == 1) {
                    many[takes(c, h)]++;
                }
            }
            int most = Arrays.stream(many).max().getAsInt();
            if (most < least) {
                least = most;
                best = h;
            }
        }
        return best;
    }

    int piece(int width, int bits) {
        if (!in(width, 1, 4) || bits < 0 || bits > Math.pow(2, width) - 1 || w.pieces.size() == 5) {
            return NONE;
        }
        w.pieces.add(new int[] {width, bits});
        return w.pieces.size() - 1;
    }

    private String bits(int i) {
        StringBuilder text = new StringBuilder(Integer.toBinaryString(w.pieces.get(i)[1]));
        while (text.length() < w.pieces.get(i)[0]) {
            text.insert(0, '0');
        }
        return text.toString();
    }

    /** What the pieces in an order make, or null. */
    private String made(int[] row) {
        String all = "";
        for (int i : row) {
            String own = bits(i);
            if (!all.isEmpty() && all.charAt(all.length() - 1) != own.charAt(0)) {
                return null;
            }
            all += all.isEmpty() ? own : own.substring(1);
        }
        return all;
    }

    private List<int[]> joined() {
        List<int[]> fit = new ArrayList<>();
        for (int[] row : permutations(w.pieces.size())) {
            if (made(row) != null) {
                fit.add(row);
            }
        }
        return fit;
    }

    int joins(int i) {
        List<int[]> fit = joined();
        if (i == NONE) {
            return fit.size();
        }
        return in(i, 0, w.pieces.size() - 1) && !fit.isEmpty() ? fit.get(0)[i] : -2;
    }

    long dream() {
        List<int[]> fit = joined();
        if (fit.isEmpty()) {
            return NONE;
        }
        String all = made(fit.get(0));
        return all.isEmpty() ? 0 : Long.parseLong(all, 2);
    }

    int price(int n) {
        if (!in(n, 0, 12)) {
            return NONE;
        }
        return n == 0 ? 0 : Math.max(0, (540 + 2 * price(n - 1)) / 3 - 60);
    }

    long chances(int n, int k, boolean low) {
        if (!in(n, 0, 8) || !in(k, 0, n)) {
            return NONE;
        }
        // each of 3 ways for each night, one of which is cold
        long all = (long) Math.pow(3, n);
        long hits = 0;
        for (int way = 0; way < all; way++) {
            int cold = 0;
            for (int rest = way, i = 0; i < n; i++, rest /= 3) {
                cold += rest % 3 == 0 ? 1 : 0;
            }
            hits += cold == k ? 1 : 0;
        }
        return lowest(hits, all, low);
    }

    private static final int[] WINS = new int[169];

    private static boolean wins(int a, int b) {
        int at = a * 13 + b;
        if (WINS[at] == 0) {
            WINS[at] = best(a, b) != NONE ? 1 : 2;
        }
        return WINS[at] == 1;
    }

    private static int best(int a, int b) {
        int[][] moves = {{0, 1}, {0, 2}, {1, 0}, {1, 1}, {2, 0}, {2, 2}};
        for (int[] m : moves) {
            if (m[0] <= a && m[1] <= b && !wins(a - m[0], b - m[1])) {
                return 10 * m[0] + m[1];
            }
        }
        return NONE;
    }

    int game(int a, int b) {
        return in(a, 0, 12) && in(b, 0, 12) ? (wins(a, b) ? 1 : 0) : NONE;
    }

    int play(int a, int b) {
        return in(a, 0, 12) && in(b, 0, 12) ? best(a, b) : NONE;
    }

    int said(int cat, int house, int takes) {
        return tell(w.said, 8, cat == NONE, isCat(cat) && isHouse(house) && in(takes, 0, 99), cat, house, takes);
    }

    int whose() {
        int bits = 0;
        for (int t = 0; t < w.texts.size(); t++) {
            boolean all = true;
            for (int[] s : w.said) {
                all &= takesBy(w.texts.get(t), s[0], s[1]) == s[2];
            }
            bits += all ? 1 << t : 0;
        }
        return bits;
    }

    int nearest(int cat) {
        if (!isCat(cat)) {
            return NONE;
        }
        for (int d = 0; d <= 5; d++) {
            for (int h = 0; h < w.s.houses.size(); h++) {
                if (guest(h) == NONE && far(cat, h) == d) {
                    return h;
                }
            }
        }
        return NONE;
    }

    int at(int place) {
        if (!in(place, 0, 9)) {
            return NONE;
        }
        int bits = 0;
        for (int c = 0; c < w.s.cats.size(); c++) {
            bits += w.s.cats.get(c).home == NONE && w.s.cats.get(c).place == place ? 1 << c : 0;
        }
        return bits;
    }

    int gap() {
        int most = 0;
        for (int from = 0; from < 10; from++) {
            int n = 0;
            while (n < 10 && at((from + n) % 10) == 0) {
                n++;
            }
            most = Math.max(most, n);
        }
        return most;
    }

    int share(int cat, boolean low) {
        if (!isCat(cat)) {
            return NONE;
        }
        int own = w.s.cats.get(cat).taken;
        return own == 0 ? (low ? 1 : 0) : (int) lowest(own, is(3), low);
    }

    int coldest() {
        for (int cold = 9; cold >= 0; cold--) {
            for (int c = 0; c < w.s.cats.size(); c++) {
                if (w.s.cats.get(c).cold == cold) {
                    return c;
                }
            }
        }
        return NONE;
    }

    int dreamless() {
        int bits = 0;
        for (int h = 0; h < w.s.houses.size(); h++) {
            bits += w.s.houses.get(h).dream == 0 ? 1 << h : 0;
        }
        return bits;
    }

    int free() {
        int bits = 0;
        for (int h = 0; h < w.s.houses.size(); h++) {
            bits += guest(h) == NONE ? 1 << h : 0;
        }
        return bits;
    }

    int ledger(int cat) {
        if (cat != NONE && !isCat(cat)) {
            return -2;
        }
        return (int) w.s.book.stream().filter(b -> cat == NONE || b[1] == cat).count();
    }

    int image() {
        kept = w.copy();
        return w.s.hour;
    }

    int back() {
        w = kept.copy();
        return w.s.hour;
    }

    int about(int what) {
        int[] all = {w.s.houses.size(), w.s.cats.size(), w.texts.size(), w.by, w.steps.size(), w.sights.size(),
            w.told.size(), w.pieces.size(), w.said.size(), tape.length};
        return in(what, 0, 9) ? all[what] : -2;
    }
}
