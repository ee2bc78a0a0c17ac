/** Promises 22 to 53: what is asked, and what is told for it. */
public final class QuestionsTest {
    public static void main(String[] args) {
        promise22();
        promise23();
        promises24And25();
        promise26();
        promises27And28();
        promises29And32();
        promises30And31();
        promises33And34();
        promise35();
        promise36();
        promise37();
        promises38And39();
        promise40();
        promise41();
        promises42And43();
        promises44And45();
        promise46();
        promises47And48();
        promise49();
        promise50();
        promises51And52();
        promise53();
        nothingElseChanges();
        Due.close();
    }

    /** Houses 0 (door 3, dream 20), 1 (door 7, dream 5); cats 0 (at 3, cold 4), 1 (at 7, cold 2), 2 (at 0, cold 4). */
    private static NightCats furnished() {
        NightCats x = new NightCats();
        x.house(3, 20);
        x.house(7, 5);
        x.cat(3, 4);
        x.cat(7, 2);
        x.cat(0, 4);
        return x;
    }

    /** One digit for each house, its door, and one for each cat, its place; each cat is less cold than the one ahead of it. */
    private static NightCats stand(String doors, String places) {
        NightCats x = new NightCats();
        for (int i = 0; i < doors.length(); i++) {
            x.house(doors.charAt(i) - '0', 50);
        }
        for (int i = 0; i < places.length(); i++) {
            x.cat(places.charAt(i) - '0', 9 - i);
        }
        return x;
    }

    private static void promise22() {
        NightCats x = furnished();
        x.let(0, 0);
        x.let(1, 1);
        Due.due("in", x.foretold(1, 0, 0), 3);
        // X: 397, 9920, 16032: up, down, stays
        Due.due("up", x.foretold(1, 0, 2), 1);
        Due.due("down", x.foretold(2, 0, 2), 0);
        Due.due("stays", x.foretold(3, 0, 2), 0);
        Due.due("dream", x.foretold(3, 1, 0), 8);
        Due.due("dream", x.foretold(2, 1, 1), 1);
        Due.due("dream", x.foretold(60, 1, 1), 0);
        Due.due("hour", x.is(0), 0);
        Due.due("X", x.is(1), 397);
        Due.due("dream yet", x.is(2), 25);
        Due.due("taken yet", x.is(3), 0);
        Due.due("steps", x.about(4), 2);
        int[] odd = {0, -1, 61, Integer.MIN_VALUE, Integer.MAX_VALUE};
        for (int o : odd) {
            Due.due("others", x.foretold(o, 0, 0), -1);
        }
        Due.due("others", x.foretold(1, 2, 0), -1);
        Due.due("others", x.foretold(1, -1, 0), -1);
        Due.due("others", x.foretold(1, 0, 3), -1);
        Due.due("others", x.foretold(1, 0, -1), -1);
        Due.due("others", x.foretold(1, 1, 2), -1);
        Due.due("others", x.foretold(1, 1, -1), -1);
        Due.read(x, "goes hour-1;takes 1+hour;");
        x.by(0);
        Due.due("by law", x.foretold(2, 1, 0), 17);
        Due.due("by law it is off in the third hour", x.foretold(9, 1, 0), 14);
        Due.due("the book", x.book(-1, 0), 2);
        Due.due("in yet", x.of(0, 2), 0);
        x.hour(9);
        Due.due("as foretold", x.ofHouse(0, 1), 14);
    }

    private static void promise23() {
        NightCats x = stand("0", "0123456789".substring(0, 6));
        int[] far = {0, 1, 2, 3, 4, 5};
        for (int c = 0; c < 6; c++) {
            Due.due("far", x.far(c, 0), far[c]);
        }
        NightCats y = stand("8", "210345");
        int[] other = {4, 3, 2, 5, 4, 3};
        for (int c = 0; c < 6; c++) {
            Due.due("far", y.far(c, 0), other[c]);
        }
        x.let(0, 0);
        Due.due("far of one in", x.far(0, 0), 0);
        Due.due("others", x.far(6, 0), -1);
        Due.due("others", x.far(-1, 0), -1);
        Due.due("others", x.far(0, 1), -1);
        Due.due("others", x.far(0, -1), -1);
    }

    private static void pairs(String doors, String places, int many, int steps, String cats) {
        NightCats x = stand(doors, places);
        String name = "match " + doors + " " + places;
        Due.due(name, x.match(0), many);
        Due.due(name, x.match(1), steps);
        for (int h = 0; h < doors.length(); h++) {
            Due.due(name + " " + h, x.matched(h), cats.charAt(h) == '-' ? -1 : cats.charAt(h) - '0');
        }
    }

    private static void promises24And25() {
        pairs("", "", 0, 0, "");
        pairs("123", "", 0, 0, "---");
        pairs("", "123", 0, 0, "");
        pairs("37", "370", 2, 0, "01");
        pairs("37", "73", 2, 0, "10");
        // of like ones the lowest cat for house 0, and none is lower than any
        pairs("5", "46", 1, 1, "0");
        pairs("46", "5", 1, 1, "-0");
        pairs("555", "55", 2, 0, "-01");
        pairs("55", "555", 2, 0, "01");
        // the nearest for house 0 would be dear for house 1
        pairs("24", "31", 2, 2, "10");
        pairs("09", "01", 2, 2, "01");
        pairs("024680", "135790", 6, 5, lowestInFive());
        NightCats x = furnished();
        Due.due("match", x.match(2), -1);
        Due.due("match", x.match(-1), -1);
        Due.due("matched", x.matched(2), -1);
        Due.due("matched", x.matched(-1), -1);
        x.let(0, 0);
        Due.due("of those without", x.match(0), 1);
        Due.due("steps", x.match(1), 0);
        Due.due("one is in it", x.matched(0), -1);
        Due.due("matched", x.matched(1), 1);
        x.let(1, 1);
        Due.due("none there", x.match(0), 0);
        Due.due("none there", x.match(1), 0);
    }

    /** Doors 0 2 4 6 8 0 and places 1 3 5 7 9 0: the lowest of the ways in five steps, found by trying all. */
    private static String lowestInFive() {
        int[] doors = {0, 2, 4, 6, 8, 0};
        int[] places = {1, 3, 5, 7, 9, 0};
        for (int[] row : Model.permutations(6)) {
            int steps = 0;
            for (int h = 0; h < 6; h++) {
                steps += Model.apart(doors[h], places[row[h]]);
            }
            if (steps == 5) {
                StringBuilder cats = new StringBuilder();
                for (int c : row) {
                    cats.append(c);
                }
                return cats.toString();
            }
        }
        return "";
    }

    private static void latest(String doors, String places, int many, int steps) {
        NightCats x = stand(doors, places);
        Due.due("latest " + doors + " " + places, x.latest(0), many);
        Due.due("latest " + doors + " " + places, x.latest(1), steps);
    }

    private static void promise26() {
        latest("", "", 0, 0);
        latest("12", "", 0, 0);
        latest("", "5", 0, 0);
        latest("0", "5", 1, 5);
        latest("0", "57", 1, 3);
        // by the fewest steps together the farthest goes 4, by the latest 3
        latest("03", "07", 2, 3);
        Due.due("match", stand("03", "07").match(1), 4);
        latest("02", "15", 2, 3);
        latest("02", "24", 2, 2);
        latest("012345", "567890", 6, 2);
        latest("012345", "123456", 6, 1);
        NightCats x = furnished();
        Due.due("others", x.latest(2), -1);
        Due.due("others", x.latest(-1), -1);
        NightCats y = stand("35", "46");
        Due.due("steps together", y.match(1), 2);
        Due.due("the farthest", y.latest(1), 1);
        // 1 to 4 and 3 to 6, or 1 to 6 and 3 to 4
        NightCats z = stand("13", "46");
        Due.due("steps together", z.match(1), 6);
        Due.due("the farthest", z.latest(1), 3);
        z.go(0, false);
        z.let(0, 1);
        Due.due("of those without", z.latest(0), 1);
        Due.due("the farthest", z.latest(1), 5);
    }

    private static void promises27And28() {
        NightCats x = new NightCats();
        Due.due("none", x.orders(), 1);
        Due.due("none", x.order(0), -1);
        int[] cold = {5, 2, 5, 9, 2, 5};
        long[] orders = {1, 1, 2, 2, 4, 12};
        for (int c = 0; c < 6; c++) {
            x.cat(1, cold[c]);
            Due.due("orders", x.orders(), orders[c]);
        }
        int[] order = {1, 4, 0, 2, 5, 3};
        for (int i = 0; i < 6; i++) {
            Due.due("order", x.order(i), order[i]);
        }
        Due.due("others", x.order(6), -1);
        Due.due("others", x.order(-1), -1);
        x.house(1, 1);
        x.let(1, 0);
        Due.due("all cats", x.orders(), 12);
        NightCats y = new NightCats();
        for (int i = 0; i < 6; i++) {
            y.cat(i, 7);
        }
        Due.due("alike", y.orders(), 720);
        Due.due("alike", y.order(3), 3);
    }

    private static void promises29And32() {
        NightCats x = new NightCats();
        Due.due("none any more", x.seen(-1, -5), 0);
        Due.due("hour 100", x.seen(100, 0), -2);
        Due.due("hour -2", x.seen(-2, 0), -2);
        Due.due("place 10", x.seen(0, 10), -2);
        Due.due("place -1", x.seen(0, -1), -2);
        Due.due("first", x.seen(0, 0), 1);
        Due.due("second", x.seen(99, 9), 2);
        Due.due("third", x.seen(4, 5), 3);
        Due.due("fourth", x.seen(5, 0), 4);
        Due.due("fifth", x.seen(0, 0), 5);
        Due.due("sixth", x.seen(0, 1), 6);
        Due.due("five in four hours", x.same(0, 2), false);
        Due.due("none in five", x.same(0, 3), true);
        Due.due("five in one", x.same(2, 3), false);
        Due.due("back in time", x.same(3, 0), true);
        Due.due("the same", x.same(0, 4), true);
        Due.due("itself", x.same(2, 2), true);
        Due.due("at the same hour", x.same(0, 5), false);
        Due.due("others", x.same(0, 6), false);
        Due.due("others", x.same(6, 6), false);
        Due.due("others", x.same(-1, 0), false);
        Due.due("others", x.same(-1, -1), false);
        for (int i = 7; i <= 10; i++) {
            Due.due("seen", x.seen(i, 1), i);
        }
        Due.due("the eleventh", x.seen(1, 1), -2);
        Due.due("others", x.seen(-1, 77), 0);
        Due.due("none is left", x.about(5), 0);
        Due.due("none", x.same(0, 0), false);
        // five around in five hours, across 9 and 0
        x.seen(10, 8);
        x.seen(13, 1);
        x.seen(12, 1);
        Due.due("three in three", x.same(0, 1), true);
        Due.due("three in two", x.same(0, 2), false);
    }

    private static void tracks(int[][] sights, int fewest, int... tracks) {
        NightCats x = new NightCats();
        for (int[] s : sights) {
            x.seen(s[0], s[1]);
        }
        Due.due("fewest", x.fewest(), fewest);
        for (int i = 0; i < tracks.length; i++) {
            Due.due("track " + i, x.track(i), tracks[i]);
        }
        Due.due("others", x.track(tracks.length), -1);
        Due.due("others", x.track(-1), -1);
    }

    private static void promises30And31() {
        tracks(new int[][] {}, 0);
        tracks(new int[][] {{5, 5}}, 1, 0);
        tracks(new int[][] {{1, 0}, {2, 3}, {4, 1}, {1, 0}}, 2, 0, 1, 0, 0);
        tracks(new int[][] {{0, 0}, {0, 2}, {0, 4}, {0, 6}, {0, 8}}, 5, 0, 1, 2, 3, 4);
        // the first that fits would need a third: 2 must leave 0 to 3
        tracks(new int[][] {{0, 0}, {0, 4}, {2, 2}, {2, 0}}, 2, 0, 1, 1, 0);
        // the lowest, not the nearest
        tracks(new int[][] {{0, 0}, {0, 1}, {5, 1}, {5, 0}}, 2, 0, 1, 0, 1);
        // all at one place: one cat
        tracks(new int[][] {{9, 3}, {7, 3}, {8, 3}, {7, 3}, {0, 3}, {99, 3}}, 1, 0, 0, 0, 0, 0, 0);
        tracks(new int[][] {{50, 5}, {50, 6}, {49, 5}, {49, 6}, {51, 4}, {51, 7}, {48, 5}, {48, 6}, {52, 3}, {52, 8}}, 2,
                0, 1, 0, 1, 0, 1, 0, 1, 0, 1);
    }

    private static void promises33And34() {
        NightCats x = furnished();
        Due.due("nothing told: all", x.which(), 7);
        Due.due("others", x.told(2, 5), -2);
        Due.due("others", x.told(-2, 5), -2);
        Due.due("others", x.told(0, -1), -2);
        Due.due("others", x.told(0, 100), -2);
        Due.due("none any more", x.told(-1, 1000), 0);
        Due.due("told", x.told(0, 2), 1);
        Due.due("which", x.which(), 2);
        Due.due("told", x.told(1, 2), 2);
        Due.due("which", x.which(), 2);
        Due.due("told", x.told(1, 4), 3);
        Due.due("which", x.which(), 0);
        for (int i = 4; i <= 8; i++) {
            Due.due("told", x.told(0, 99), i);
        }
        Due.due("the ninth", x.told(0, 0), -2);
        Due.due("none any more", x.told(-1, -1), 0);
        Due.due("which", x.which(), 7);
        Due.read(x, "takes dream+cold*who;");
        x.by(0);
        x.told(1, 7);
        Due.due("by law", x.which(), 2);
        x.let(1, 1);
        x.hour(1);
        Due.due("as now", x.which(), 0);
        x.by(-1);
        x.told(-1, 0);
        x.told(0, 4);
        x.told(1, 4);
        Due.due("wherever it is", x.which(), 5);
        Due.due("without cats", new NightCats().which(), 0);
    }

    private static void promise35() {
        NightCats x = furnished();
        // 6, 8 and 6 of 20
        Due.due("upper", x.likely(0, false), 3);
        Due.due("lower", x.likely(0, true), 10);
        Due.due("upper", x.likely(1, false), 2);
        Due.due("lower", x.likely(1, true), 5);
        x.told(0, 4);
        Due.due("one that doesn't fit", x.likely(1, false), 0);
        Due.due("one that doesn't fit", x.likely(1, true), 1);
        Due.due("upper", x.likely(2, false), 1);
        Due.due("lower", x.likely(2, true), 2);
        Due.due("others", x.likely(3, true), -1);
        Due.due("others", x.likely(-1, false), -1);
        x.told(0, 5);
        Due.due("none fits", x.likely(0, true), -1);
        Due.due("none fits", x.likely(0, false), -1);
        NightCats y = new NightCats();
        Due.due("no cat", y.likely(0, false), -1);
        y.cat(0, 9);
        Due.due("one", y.likely(0, false), 1);
        Due.due("one", y.likely(0, true), 1);
        y.cat(0, 0);
        Due.due("1 of 11", y.likely(0, false), 1);
        Due.due("1 of 11", y.likely(0, true), 11);
        Due.due("10 of 11", y.likely(1, false), 10);
    }

    private static void promise36() {
        NightCats x = new NightCats();
        Due.due("nothing", x.askNext(), -1);
        x.cat(1, 1);
        x.cat(2, 1);
        Due.due("no house", x.askNext(), -1);
        x.house(1, 10);
        x.house(1, 20);
        Due.due("alike in both: the lowest", x.askNext(), 0);
        Due.read(x, "takes if dream=20 then who else 7 end;");
        x.by(0);
        Due.due("the one that tells them apart", x.askNext(), 1);
        x.told(1, 0);
        Due.due("fewer than two fit", x.askNext(), -1);
        x.told(-1, 0);
        x.cat(3, 1);
        x.cat(3, 1);
        x.house(2, 30);
        x.house(3, 40);
        // 3 of 4 alike in house 0 and 3, two and two in 1, two alone in 2
        Due.read(x, "takes if dream=10 or dream=40 then who/3 else if dream=20 then who/2 else if who<2 then who else 9 end end end;");
        x.by(1);
        Due.due("two and two or two of four: the lowest", x.askNext(), 1);
        x.told(0, 0);
        // 0, 1 and 2 fit: two alike in 1, none in 2
        Due.due("of those that fit", x.askNext(), 2);
        NightCats y = stand("1", "1");
        Due.due("one cat", y.askNext(), -1);
    }

    private static void promise37() {
        NightCats x = new NightCats();
        Due.due("width 0", x.piece(0, 0), -1);
        Due.due("width 5", x.piece(5, 0), -1);
        Due.due("width -1", x.piece(-1, 0), -1);
        Due.due("width 33", x.piece(33, 0), -1);
        Due.due("bits -1", x.piece(1, -1), -1);
        Due.due("bits 2 of width 1", x.piece(1, 2), -1);
        Due.due("bits 4 of width 2", x.piece(2, 4), -1);
        Due.due("bits 16", x.piece(4, 16), -1);
        Due.due("piece", x.piece(1, 1), 0);
        Due.due("piece", x.piece(2, 3), 1);
        Due.due("piece", x.piece(3, 7), 2);
        Due.due("piece", x.piece(4, 15), 3);
        Due.due("piece", x.piece(4, 0), 4);
        Due.due("the sixth", x.piece(1, 1), -1);
        Due.due("pieces", x.about(7), 5);
    }

    /** Pieces as signs 0 and 1, ways, the lowest order, the dream. */
    private static void dreams(String pieces, int ways, String order, long dream) {
        NightCats x = new NightCats();
        String[] each = pieces.isEmpty() ? new String[0] : pieces.split(" ");
        for (String p : each) {
            x.piece(p.length(), Integer.parseInt(p, 2));
        }
        Due.due("ways of " + pieces, x.joins(-1), ways);
        for (int i = 0; i < each.length; i++) {
            Due.due("joins of " + pieces, x.joins(i), ways == 0 ? -2 : order.charAt(i) - '0');
        }
        Due.due("others of " + pieces, x.joins(each.length), -2);
        Due.due("others of " + pieces, x.joins(-2), -2);
        Due.due("dream of " + pieces, x.dream(), dream);
    }

    private static void promises38And39() {
        dreams("", 1, "", 0);
        dreams("0", 1, "0", 0);
        dreams("1011", 1, "0", 11);
        dreams("10 10", 0, "", -1);
        dreams("10 01", 2, "01", 0b101);
        dreams("01 10", 2, "01", 0b010);
        dreams("11 10", 1, "01", 0b110);
        dreams("10 11", 1, "10", 0b110);
        dreams("101 10 0", 1, "012", 0b1010);
        dreams("1 1 1", 6, "012", 1);
        dreams("1 0", 0, "", -1);
        dreams("0 11 01", 1, "021", 0b011);
        dreams("1111 1111 1111 1111 1111", 120, "01234", 0xffff);
        dreams("1000 0101 1110 0011 1010", 12, Joined.lowest("1000 0101 1110 0011 1010"), Joined.dream("1000 0101 1110 0011 1010"));
    }

    /** The same by trying all orders of the signs. */
    private static final class Joined {
        static String made(String[] each, int[] row) {
            String all = "";
            for (int i : row) {
                if (!all.isEmpty() && !each[i].startsWith(all.substring(all.length() - 1))) {
                    return null;
                }
                all += all.isEmpty() ? each[i] : each[i].substring(1);
            }
            return all;
        }

        static String lowest(String pieces) {
            String[] each = pieces.split(" ");
            for (int[] row : Model.permutations(each.length)) {
                if (made(each, row) != null) {
                    return "" + row[0] + row[1] + row[2] + row[3] + row[4];
                }
            }
            return "";
        }

        static long dream(String pieces) {
            String[] each = pieces.split(" ");
            for (int[] row : Model.permutations(each.length)) {
                if (made(each, row) != null) {
                    return Long.parseLong(made(each, row), 2);
                }
            }
            return -1;
        }
    }

    private static void promise40() {
        NightCats x = new NightCats();
        int[] price = {0, 120, 200, 253, 288, 312, 328, 338, 345, 350, 353, 355, 356};
        for (int n = 0; n <= 12; n++) {
            Due.due("price", x.price(n), price[n]);
        }
        Due.due("others", x.price(13), -1);
        Due.due("others", x.price(-1), -1);
    }

    private static void promise41() {
        NightCats x = new NightCats();
        long[][] rows = {{0, 0, 1, 1}, {1, 0, 2, 3}, {1, 1, 1, 3}, {2, 0, 4, 9}, {2, 1, 4, 9}, {2, 2, 1, 9}, {3, 1, 4, 9}, {3, 2, 2, 9},
            {3, 3, 1, 27}, {4, 2, 8, 27}, {6, 3, 160, 729}, {8, 0, 256, 6561}, {8, 8, 1, 6561}, {8, 3, 1792, 6561}, {8, 2, 1792, 6561}};
        for (long[] row : rows) {
            Due.due("upper " + row[0] + " " + row[1], x.chances((int) row[0], (int) row[1], false), row[2]);
            Due.due("lower " + row[0] + " " + row[1], x.chances((int) row[0], (int) row[1], true), row[3]);
        }
        Due.due("others", x.chances(9, 0, false), -1);
        Due.due("others", x.chances(-1, 0, false), -1);
        Due.due("others", x.chances(4, 5, false), -1);
        Due.due("others", x.chances(4, -1, true), -1);
    }

    private static void promises42And43() {
        NightCats x = new NightCats();
        Model plain = new Model();
        for (int a = -1; a <= 13; a++) {
            for (int b = -1; b <= 13; b++) {
                Due.due("game " + a + " " + b, x.game(a, b), plain.game(a, b));
                Due.due("play " + a + " " + b, x.play(a, b), plain.play(a, b));
            }
        }
        Due.due("both empty", x.game(0, 0), 0);
        Due.due("both empty", x.play(0, 0), -1);
        Due.due("two and two", x.play(2, 2), 1);
        Due.due("one and one: both", x.play(1, 1), 11);
        Due.due("two and none", x.play(2, 0), 20);
        Due.due("12 and 12", x.game(12, 12), 0);
    }

    private static void promises44And45() {
        NightCats x = furnished();
        Due.due("no text", x.whose(), 0);
        Due.due("others", x.said(3, 0, 1), -2);
        Due.due("others", x.said(-2, 0, 1), -2);
        Due.due("others", x.said(0, 2, 1), -2);
        Due.due("others", x.said(0, -1, 1), -2);
        Due.due("others", x.said(0, 0, -1), -2);
        Due.due("others", x.said(0, 0, 100), -2);
        Due.due("none any more", x.said(-1, 99, 1000), 0);
        Due.read(x, "goes 1;");
        Due.read(x, "takes cold;");
        Due.read(x, "takes dream/5;");
        Due.read(x, "takes who+4;");
        Due.due("nothing said: all", x.whose(), 15);
        Due.due("said", x.said(0, 0, 4), 1);
        Due.due("by what is so without, too", x.whose(), 15);
        Due.due("said", x.said(1, 0, 2), 2);
        Due.due("whose", x.whose(), 3);
        x.said(-1, 0, 0);
        x.said(2, 1, 1);
        Due.due("whose", x.whose(), 4);
        x.let(1, 1);
        x.hour(1);
        Due.due("as now", x.whose(), 0);
        for (int i = 2; i <= 8; i++) {
            Due.due("said", x.said(0, 0, 0), i);
        }
        Due.due("the ninth", x.said(0, 0, 0), -2);
        Due.due("none any more", x.said(-1, 0, 0), 0);
        x.by(2);
        Due.due("whoever rules", x.whose(), 15);
    }

    private static void promise46() {
        NightCats x = stand("2847", "55");
        // 3, 3, 1, 2
        Due.due("nearest", x.nearest(0), 2);
        x.go(1, false);
        Due.due("it is there", x.nearest(1), 2);
        x.let(1, 2);
        Due.due("those with none in them", x.nearest(0), 3);
        Due.due("for one in, too", x.nearest(1), 0);
        Due.due("others", x.nearest(2), -1);
        Due.due("others", x.nearest(-1), -1);
        NightCats y = stand("28", "0");
        Due.due("of like ones the lowest", y.nearest(0), 0);
        Due.due("none", stand("", "0").nearest(0), -1);
        NightCats z = stand("0", "05");
        z.let(0, 0);
        Due.due("none", z.nearest(1), -1);
    }

    private static void promises47And48() {
        NightCats x = stand("3", "33190");
        Due.due("at", x.at(3), 3);
        Due.due("at", x.at(1), 4);
        Due.due("at", x.at(9), 8);
        Due.due("at", x.at(0), 16);
        Due.due("at", x.at(2), 0);
        Due.due("others", x.at(-1), -1);
        Due.due("others", x.at(10), -1);
        Due.due("gap", x.gap(), 5);
        x.let(1, 0);
        Due.due("at, without", x.at(3), 1);
        x.go(0, false);
        Due.due("at", x.at(3), 0);
        Due.due("gap", x.gap(), 6);
        Due.due("all", new NightCats().gap(), 10);
        Due.due("one", stand("", "4").gap(), 9);
        Due.due("across", stand("", "37").gap(), 5);
        Due.due("across", stand("", "147").gap(), 3);
        Due.due("six", stand("", "024689").gap(), 1);
        NightCats y = stand("4", "4");
        y.let(0, 0);
        Due.due("all are in", y.gap(), 10);
    }

    private static void promise49() {
        NightCats x = furnished();
        for (int c = 0; c < 3; c++) {
            Due.due("nothing taken", x.share(c, false), 0);
            Due.due("nothing taken", x.share(c, true), 1);
        }
        Due.due("others", x.share(3, false), -1);
        Due.due("others", x.share(-1, true), -1);
        x.let(0, 0);
        x.let(1, 1);
        x.hour(3);
        // 12 and 5
        Due.due("share", x.share(0, false), 12);
        Due.due("share", x.share(0, true), 17);
        Due.due("share", x.share(1, false), 5);
        Due.due("none of it", x.share(2, false), 0);
        Due.due("none of it", x.share(2, true), 1);
        x.undo();
        Due.due("8 and 4", x.share(0, false), 2);
        Due.due("8 and 4", x.share(0, true), 3);
        Due.due("8 and 4", x.share(1, false), 1);
        NightCats y = stand("1", "1");
        y.let(0, 0);
        y.hour(1);
        Due.due("all", y.share(0, false), 1);
        Due.due("all", y.share(0, true), 1);
    }

    private static void promise50() {
        NightCats x = new NightCats();
        Due.due("none", x.coldest(), -1);
        x.cat(0, 0);
        Due.due("one", x.coldest(), 0);
        x.cat(0, 5);
        x.cat(0, 5);
        Due.due("of like ones the lowest", x.coldest(), 1);
        x.cat(0, 9);
        Due.due("coldest", x.coldest(), 3);
    }

    private static void promises51And52() {
        NightCats x = new NightCats();
        x.house(0, 0);
        x.house(0, 3);
        x.house(0, 0);
        x.cat(0, 2);
        Due.due("dreamless", x.dreamless(), 5);
        Due.due("free", x.free(), 7);
        x.let(0, 1);
        x.hour(1);
        Due.due("dreamless", x.dreamless(), 5);
        Due.due("free", x.free(), 5);
        x.hour(1);
        Due.due("dreamless", x.dreamless(), 7);
        x.out(1);
        Due.due("free", x.free(), 7);
        x.let(0, 0);
        Due.due("not the first", x.free(), 6);
        NightCats y = stand("37", "3");
        Due.due("none is dreamless", y.dreamless(), 0);
        y.house(1, 0);
        Due.due("the third", y.dreamless(), 4);
        y.let(0, 0);
        Due.due("the others", y.free(), 6);
        Due.due("none", new NightCats().free(), 0);
        Due.due("none", new NightCats().dreamless(), 0);
    }

    private static void promise53() {
        NightCats x = furnished();
        Due.due("none", x.ledger(-1), 0);
        Due.due("none", x.ledger(0), 0);
        x.let(0, 0);
        x.let(1, 1);
        x.out(1);
        Due.due("all", x.ledger(-1), 3);
        Due.due("one", x.ledger(0), 1);
        Due.due("two", x.ledger(1), 2);
        Due.due("none", x.ledger(2), 0);
        Due.due("others", x.ledger(3), -2);
        Due.due("others", x.ledger(-2), -2);
        for (int i = 0; i < 15; i++) {
            x.let(1, 1);
            x.out(1);
        }
        Due.due("all of 25", x.ledger(-1), 25);
        Due.due("gone from the book", x.ledger(0), 0);
        Due.due("25", x.ledger(1), 25);
    }

    /** All questions, and then all as it was. */
    private static void nothingElseChanges() {
        NightCats x = furnished();
        Due.read(x, "takes who;goes taken-9;");
        x.by(0);
        x.let(0, 0);
        x.let(1, 1);
        x.hour(3);
        x.seen(1, 1);
        x.told(0, 1);
        x.piece(2, 2);
        x.said(0, 0, 0);
        long before = stamp(x);
        x.foretold(60, 0, 0);
        x.foretold(60, 1, 0);
        x.match(1);
        x.matched(0);
        x.latest(1);
        x.orders();
        x.order(1);
        x.fewest();
        x.track(0);
        x.which();
        x.likely(0, true);
        x.askNext();
        x.joins(0);
        x.dream();
        x.whose();
        x.nearest(2);
        x.gap();
        x.ledger(0);
        Due.due("all as it was", stamp(x), before);
    }

    private static long stamp(NightCats x) {
        long all = 0;
        for (int i = 0; i < 10; i++) {
            all = all * 31 + x.about(i);
            all = all * 31 + x.is(i % 4);
            for (int what = 0; what < 4; what++) {
                all = all * 31 + x.of(i, what);
                all = all * 31 + x.ofHouse(i, what);
                all = all * 31 + x.book(i, what);
            }
        }
        return all;
    }
}
