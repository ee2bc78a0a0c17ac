import java.util.function.ToLongFunction;

/** Parts III and IV, promises 22 to 53: what is asked, and what is told for it. */
final class QuestionsEdges {
    private static final int LEAST = Integer.MIN_VALUE;
    private static final int MOST = Integer.MAX_VALUE;
    private static final String MATCH = "A MATCH of CATS without and HOUSES with none in them, each with one at most: as many as can be, by the fewest steps (FAR) together; "
            + "of like ones the lowest CAT (none is lower than any) for HOUSE 0, then for 1, .. (none there: 0, 0).";
    private static final String LATEST = "THE LATEST: as many as can be at all, and so that the farthest of them goes as few steps as can be: how many, the steps (0 without any).";
    private static final String ORDERS = "ORDERS: in how many orders all CATS can come (one behind the other) so that none is less COLD than one ahead of it; "
            + "AN ORDER: the lowest such: the i-th.";
    private static final String SIGHTS = "SIGHTS (10 at most; told: at an HOUR 0 .. 99 one was at a PLACE): two can be of one CAT, if it can have gone from the one to the other, "
            + "a PLACE an HOUR at most (at the same HOUR: the same PLACE; one with itself: so).";
    private static final String FEWEST = "FEWEST: how few CATS there must be, so that each SIGHT is of one, each two of one CAT can be of one; a TRACK: of such ways that in which "
            + "the number of the CAT (from 0) of SIGHT 0 is lowest, then of 1, .. (without SIGHTS 0, none).";

    private QuestionsEdges() {
    }

    static void all() {
        changesNothing();
        foretold();
        foretoldOthers();
        far();
        match();
        matched();
        latest();
        orders();
        seen();
        same();
        fewest();
        tracks();
        told();
        likely();
        askNext();
        pairsOfThemselves();
        clues();
    }

    static NightCats furnished() {
        return DeedsEdges.furnished();
    }

    /** One digit for each house, its door, and one for each cat, its place; each cat is less cold than the one ahead of it. */
    static NightCats stand(String doors, String places) {
        NightCats x = new NightCats();
        for (int i = 0; i < doors.length(); i++) {
            x.house(doors.charAt(i) - '0', 50);
        }
        for (int i = 0; i < places.length(); i++) {
            x.cat(places.charAt(i) - '0', 9 - i);
        }
        return x;
    }

    private static void changesNothing() {
        Edges.test(22, "All that follows changes nothing but what is told.", () -> {
            Edges.still("foretold(60, 0, 1)", QuestionsEdges::furnished, x -> x.foretold(60, 0, 1));
            Edges.still("foretold(60, 1, 0)", QuestionsEdges::furnished, x -> x.foretold(60, 1, 0));
            Edges.still("far(1, 2)", QuestionsEdges::furnished, x -> x.far(1, 2), 2);
            Edges.still("match(0)", QuestionsEdges::furnished, x -> x.match(0), 2);
            Edges.still("match(1)", QuestionsEdges::furnished, x -> x.match(1), 0);
            Edges.still("matched(1)", QuestionsEdges::furnished, x -> x.matched(1), 1);
            Edges.still("latest(0)", QuestionsEdges::furnished, x -> x.latest(0), 2);
            Edges.still("latest(1)", QuestionsEdges::furnished, x -> x.latest(1), 0);
            Edges.still("orders()", QuestionsEdges::furnished, NightCats::orders, 2);
            Edges.still("order(0)", QuestionsEdges::furnished, x -> x.order(0), 3);
            Edges.still("fewest()", QuestionsEdges::furnished, NightCats::fewest, 2);
            Edges.still("track(1)", QuestionsEdges::furnished, x -> x.track(1), 1);
            Edges.still("same(0, 1)", QuestionsEdges::furnished, x -> Edges.one(x.same(0, 1)), 0);
            Edges.still("which()", QuestionsEdges::furnished, NightCats::which, 5);
            Edges.still("likely(2, true)", QuestionsEdges::furnished, x -> x.likely(2, true), 2);
            Edges.still("askNext()", QuestionsEdges::furnished, NightCats::askNext, 0);
        });
        Edges.test(46, "All that follows changes nothing but what is told.", () -> {
            Edges.still("joins(-1)", QuestionsEdges::furnished, x -> x.joins(-1), 1);
            Edges.still("joins(0)", QuestionsEdges::furnished, x -> x.joins(0), 0);
            Edges.still("dream()", QuestionsEdges::furnished, NightCats::dream, 5);
            Edges.still("price(12)", QuestionsEdges::furnished, x -> x.price(12), 356);
            Edges.still("chances(8, 8, false)", QuestionsEdges::furnished, x -> x.chances(8, 8, false), 1);
            Edges.still("game(12, 12)", QuestionsEdges::furnished, x -> x.game(12, 12), 0);
            Edges.still("play(12, 11)", QuestionsEdges::furnished, x -> x.play(12, 11), 2);
            Edges.still("whose()", QuestionsEdges::furnished, NightCats::whose, 1);
            Edges.still("nearest(0)", QuestionsEdges::furnished, x -> x.nearest(0), 1);
            Edges.still("at(9)", QuestionsEdges::furnished, x -> x.at(9), 4);
            Edges.still("gap()", QuestionsEdges::furnished, NightCats::gap, 7);
            Edges.still("share(0, true)", QuestionsEdges::furnished, x -> x.share(0, true), 1);
            Edges.still("coldest()", QuestionsEdges::furnished, NightCats::coldest, 0);
            Edges.still("dreamless()", QuestionsEdges::furnished, NightCats::dreamless, 0);
            Edges.still("free()", QuestionsEdges::furnished, NightCats::free, 6);
            Edges.still("ledger(0)", QuestionsEdges::furnished, x -> x.ledger(0), 3);
        });
    }

    private static void foretold() {
        Edges.test(22, "FORETOLD behind n HOURS (1 .. 60; those that can pass), nothing else being done.", () -> {
            for (int n = 1; n <= 60; n++) {
                NightCats asked = furnished();
                NightCats gone = furnished();
                Edges.rule(gone, "takes cold;goes hour-9;");
                Edges.rule(asked, "takes cold;goes hour-9;");
                gone.hour(n);
                for (int cat = 0; cat < 4; cat++) {
                    Edges.due("place of " + cat + " behind " + n, asked.foretold(n, 0, cat), gone.of(cat, 0));
                }
                for (int house = 0; house < 3; house++) {
                    Edges.due("dream of " + house + " behind " + n, asked.foretold(n, 1, house), gone.ofHouse(house, 1));
                }
            }
        });
        Edges.test(22, "those that can pass", () -> {
            for (int left = 0; left <= 3; left++) {
                NightCats x = DeedsEdges.late(left);
                for (int n : new int[] {1, 2, 3, 4, 60}) {
                    Edges.due(n + " of " + left, x.foretold(n, 1, 0), 500 - 2 * Math.min(n, left));
                }
                Edges.due("hour", x.is(0), 9999 - left);
            }
            Edges.still("foretold at 9999", () -> DeedsEdges.late(0), x -> x.foretold(60, 1, 0), 500);
        });
        Edges.test(22, "0 PLACE of a CAT, 1 DREAM of a HOUSE.", () -> {
            NightCats x = stand("4", "49");
            x.let(0, 0);
            Edges.due("in a house", x.foretold(60, 0, 0), 4);
            Edges.due("up by 397", x.foretold(1, 0, 1), 0);
            Edges.due("down by 9920", x.foretold(2, 0, 1), 9);
            Edges.due("stays by 16032", x.foretold(3, 0, 1), 9);
            Edges.due("50 less 9", x.foretold(1, 1, 0), 41);
            Edges.due("5 are left", x.foretold(5, 1, 0), 5);
            Edges.due("no less than 0", x.foretold(6, 1, 0), 0);
            Edges.due("no less than 0", x.foretold(60, 1, 0), 0);
        });
    }

    private static void foretoldOthers() {
        Edges.test(22, "NONE for others.", () -> {
            int[][] rows = {{0, 0, 0}, {-1, 0, 0}, {61, 0, 0}, {LEAST, 0, 0}, {MOST, 0, 0}, {0, 1, 0}, {61, 1, 0}, {1, -1, 0}, {1, 2, 0}, {1, LEAST, 0}, {1, MOST, 0},
                {1, 0, -1}, {1, 0, 4}, {1, 1, -1}, {1, 1, 3}, {1, 0, LEAST}, {1, 0, MOST}, {1, 1, LEAST}, {1, 1, MOST}};
            for (int[] row : rows) {
                Edges.still("foretold(" + row[0] + ", " + row[1] + ", " + row[2] + ")", QuestionsEdges::furnished, x -> x.foretold(row[0], row[1], row[2]), -1);
            }
            Edges.due("of none", new NightCats().foretold(1, 0, 0), -1);
            Edges.due("of none", new NightCats().foretold(1, 1, 0), -1);
            Edges.due("cat 6 of six", DeedsEdges.crowded().foretold(1, 0, 6), -1);
            Edges.due("house 6 of six", DeedsEdges.crowded().foretold(1, 1, 6), -1);
            Edges.due("cat 5 of six", DeedsEdges.crowded().foretold(1, 0, 2), 4);
            Edges.due("house 5 of six", DeedsEdges.crowded().foretold(1, 1, 5), 500);
        });
    }

    private static void far() {
        Edges.test(23, "FAR: how many PLACES a CAT is from a door by the shorter way around.", () -> {
            for (int door = 0; door < 10; door++) {
                for (int place = 0; place < 10; place++) {
                    int up = 0;
                    int down = 0;
                    while ((place + up) % 10 != door) {
                        up++;
                    }
                    while ((place - down + 10) % 10 != door) {
                        down++;
                    }
                    Edges.due("far from " + place + " to " + door, stand(String.valueOf(door), String.valueOf(place)).far(0, 0), Math.min(up, down));
                }
            }
        });
        Edges.test(23, "FAR. NONE for others.", () -> {
            int[][] rows = {{-1, 0}, {4, 0}, {0, -1}, {0, 3}, {LEAST, 0}, {MOST, 0}, {0, LEAST}, {0, MOST}, {6, 6}};
            for (int[] row : rows) {
                Edges.still("far(" + row[0] + ", " + row[1] + ")", QuestionsEdges::furnished, x -> x.far(row[0], row[1]), -1);
            }
            Edges.due("of none", new NightCats().far(0, 0), -1);
            Edges.due("cat 6 of six", DeedsEdges.crowded().far(6, 0), -1);
            Edges.due("house 6 of six", DeedsEdges.crowded().far(0, 6), -1);
        });
    }

    private static void match() {
        Edges.test(24, MATCH, () -> {
            pairs("", "", 0, 0, "");
            pairs("123456", "", 0, 0, "------");
            pairs("", "123456", 0, 0, "");
            pairs("5", "5", 1, 0, "0");
            pairs("0", "5", 1, 5, "0");
            pairs("000000", "555555", 6, 30, "012345");
            pairs("37", "73", 2, 0, "10");
            pairs("0", "19", 1, 1, "0");
            pairs("2", "013", 1, 1, "1");
        });
        Edges.test(24, "as many as can be, by the fewest steps (FAR) together", () -> {
            // the nearest for house 0 leaves 4 steps for house 1, the other way 3
            pairs("03", "17", 2, 5, "01");
            pairs("01", "12", 2, 2, "01");
            pairs("12", "01", 2, 2, "01");
            // each cat far, but as many as can be
            pairs("05", "5", 1, 0, "-0");
            pairs("00", "55", 2, 10, "01");
            pairs("09", "90", 2, 0, "10");
        });
        Edges.test(24, "0 how many, 1 steps together.", () -> {
            NightCats x = stand("358", "3580");
            Edges.due("match(0)", x.match(0), 3);
            Edges.due("match(1)", x.match(1), 0);
            x.let(0, 0);
            x.let(1, 1);
            Edges.due("of those without", x.match(0), 1);
            x.let(2, 2);
            Edges.due("no house is left", x.match(0), 0);
            Edges.due("no house is left", x.match(1), 0);
            NightCats y = stand("3588", "358");
            y.let(0, 0);
            y.let(1, 1);
            y.let(2, 2);
            Edges.due("no cat is left", y.match(0), 0);
            Edges.due("no cat is left", y.match(1), 0);
        });
        Edges.test(24, "NONE for others.", () -> {
            for (int what : new int[] {-1, 2, LEAST, MOST}) {
                Edges.still("match(" + what + ")", QuestionsEdges::furnished, x -> x.match(what), -1);
                Edges.still("match(" + what + ") of none", NightCats::new, x -> x.match(what), -1);
            }
        });
    }

    private static void pairs(String doors, String places, int many, int steps, String cats) {
        NightCats x = stand(doors, places);
        String name = "match " + doors + " " + places;
        Edges.due(name, x.match(0), many);
        Edges.due(name, x.match(1), steps);
        for (int h = 0; h < doors.length(); h++) {
            Edges.due(name + " " + h, x.matched(h), cats.charAt(h) == '-' ? -1 : cats.charAt(h) - '0');
        }
    }

    private static void matched() {
        Edges.test(25, "of like ones the lowest CAT (none is lower than any) for HOUSE 0, then for 1, ..", () -> {
            pairs("55", "46", 2, 2, "01");
            pairs("5", "64", 1, 1, "0");
            pairs("5", "465", 1, 0, "2");
            // none is lower than any: a house that can be left is
            pairs("46", "5", 1, 1, "-0");
            pairs("555", "5", 1, 0, "--0");
            pairs("555", "55", 2, 0, "-01");
            pairs("5555", "46", 2, 2, "--01");
            pairs("4654", "5", 1, 0, "--0-");
            // the lowest for house 0, even if 1 has a higher one by it
            pairs("13", "22", 2, 2, "01");
            pairs("31", "22", 2, 2, "01");
            pairs("258", "0369", 3, 3, "123");
        });
        Edges.test(25, "MATCHED: the CAT.", () -> {
            NightCats x = stand("358", "853");
            int[] cats = {2, 1, 0};
            for (int h = 0; h < 3; h++) {
                Edges.due("matched(" + h + ")", x.matched(h), cats[h]);
            }
            NightCats y = stand("000000", "055555");
            for (int i = 0; i < 5; i++) {
                y.let(i, 0);
            }
            Edges.due("house 0 has one in it", y.matched(0), -1);
            Edges.due("the last house", y.matched(5), 5);
            Edges.due("the lowest", y.matched(1), 1);
        });
        Edges.test(25, "NONE: none", () -> {
            for (int last = 1; last <= 6; last++) {
                NightCats x = stand("333333".substring(0, last), "3456789".substring(0, last + 1));
                for (int h = last - 1; h >= 0; h--) {
                    int cat = last - 1 - h;
                    for (int i = 0; i < last; i++) {
                        Edges.due("matched(" + i + ") of " + last, x.matched(i), i <= h ? cat + i : -1);
                    }
                    for (int i = 0; i < 10 && x.of(cat, 0) != 3; i++) {
                        x.go(cat, false);
                    }
                    Edges.due("let in", x.let(cat, h), true);
                }
                for (int i = 0; i < last; i++) {
                    Edges.due("none is left", x.matched(i), -1);
                }
            }
        });
        Edges.test(25, "NONE: none, and for others.", () -> {
            for (int house : new int[] {-1, 3, 6, LEAST, MOST}) {
                Edges.still("matched(" + house + ")", QuestionsEdges::furnished, x -> x.matched(house), -1);
            }
            Edges.still("one is in it", QuestionsEdges::furnished, x -> x.matched(0), -1);
            Edges.due("of none", new NightCats().matched(0), -1);
            Edges.due("no cat", stand("5", "").matched(0), -1);
            Edges.due("house 6 of six", stand("123456", "123456").matched(6), -1);
            Edges.due("house 5 of six", stand("123456", "123456").matched(5), 5);
        });
    }

    private static void latest(String doors, String places, int many, int steps) {
        NightCats x = stand(doors, places);
        Edges.due("latest " + doors + " " + places, x.latest(0), many);
        Edges.due("latest " + doors + " " + places, x.latest(1), steps);
    }

    private static void latest() {
        Edges.test(26, LATEST, () -> {
            latest("0", "5", 1, 5);
            latest("0", "0", 1, 0);
            latest("012345", "567890", 6, 2);
            latest("012345", "123456", 6, 1);
            latest("000000", "555555", 6, 5);
            // 0 to 0 and 7 to 3 are 4 together, the farthest by 4; 7 to 0 and 0 to 3 by 3
            latest("03", "07", 2, 3);
            Edges.due("together", stand("03", "07").match(1), 4);
            latest("0", "57", 1, 3);
            latest("05", "2", 1, 2);
        });
        Edges.test(26, "how many, the steps (0 without any)", () -> {
            latest("", "", 0, 0);
            latest("123", "", 0, 0);
            latest("", "123", 0, 0);
            NightCats x = stand("3", "38");
            x.let(0, 0);
            Edges.due("no house is left", x.latest(0), 0);
            Edges.due("no house is left", x.latest(1), 0);
            NightCats y = stand("38", "3");
            y.let(0, 0);
            Edges.due("no cat is left", y.latest(0), 0);
            Edges.due("no cat is left", y.latest(1), 0);
        });
        Edges.test(26, "THE LATEST: 0 how many, 1 the farthest steps.", () -> {
            NightCats x = stand("35", "46");
            Edges.due("how many", x.latest(0), 2);
            Edges.due("steps", x.latest(1), 1);
        });
        Edges.test(26, "NONE for others.", () -> {
            for (int what : new int[] {-1, 2, LEAST, MOST}) {
                Edges.still("latest(" + what + ")", QuestionsEdges::furnished, x -> x.latest(what), -1);
                Edges.still("latest(" + what + ") of none", NightCats::new, x -> x.latest(what), -1);
            }
        });
    }

    private static NightCats cold(int... each) {
        NightCats x = new NightCats();
        for (int c : each) {
            x.cat(0, c);
        }
        return x;
    }

    private static void orders() {
        Edges.test(27, ORDERS, () -> {
            Edges.due("of none", cold().orders(), 1);
            Edges.due("of one", cold(5).orders(), 1);
            Edges.due("of two unlike", cold(5, 4).orders(), 1);
            Edges.due("of two alike", cold(5, 5).orders(), 2);
            Edges.due("of six unlike", cold(0, 9, 1, 8, 2, 7).orders(), 1);
            Edges.due("of six alike", cold(3, 3, 3, 3, 3, 3).orders(), 720);
            Edges.due("two and two and two", cold(3, 4, 5, 5, 4, 3).orders(), 8);
            Edges.due("three and three", cold(0, 9, 0, 9, 0, 9).orders(), 36);
            Edges.due("five and one", cold(1, 1, 1, 2, 1, 1).orders(), 120);
        });
        Edges.test(27, "ORDERS.", () -> {
            NightCats x = stand("0", "0");
            x.cat(0, 9);
            x.let(0, 0);
            Edges.due("all CATS, in a house too", x.orders(), 2);
            Edges.still("of none", NightCats::new, NightCats::orders, 1);
        });
        Edges.test(28, "AN ORDER: the lowest such: the i-th", () -> {
            int[][] colds = {{5, 5, 5, 5, 5, 5}, {9, 8, 7, 6, 5, 4}, {0, 9, 0, 9, 0, 9}, {3, 2, 3, 2, 2, 3}};
            int[][] orders = {{0, 1, 2, 3, 4, 5}, {5, 4, 3, 2, 1, 0}, {0, 2, 4, 1, 3, 5}, {1, 3, 4, 0, 2, 5}};
            for (int k = 0; k < 4; k++) {
                for (int i = 0; i < 6; i++) {
                    Edges.due("order(" + i + ")", cold(colds[k]).order(i), orders[k][i]);
                }
            }
        });
        Edges.test(28, "AN ORDER: the i-th CAT. NONE for others.", () -> {
            for (int i : new int[] {-1, 4, 6, LEAST, MOST}) {
                Edges.still("order(" + i + ")", QuestionsEdges::furnished, x -> x.order(i), -1);
            }
            Edges.due("order(0) of none", cold().order(0), -1);
            Edges.due("order(6) of six", cold(1, 2, 3, 4, 5, 6).order(6), -1);
            Edges.due("order(5) of six", cold(1, 2, 3, 4, 5, 6).order(5), 5);
            Edges.due("order(0) of one", cold(1).order(0), 0);
            Edges.due("order(1) of one", cold(1).order(1), -1);
        });
    }

    private static NightCats sights(int... each) {
        NightCats x = new NightCats();
        for (int i = 0; i < each.length; i += 2) {
            x.seen(each[i], each[i + 1]);
        }
        return x;
    }

    private static void seen() {
        Edges.test(29, "A SIGHT: how many there are (hour NONE: none any more).", () -> {
            NightCats x = new NightCats();
            int[][] rows = {{0, 0}, {99, 9}, {0, 9}, {99, 0}};
            for (int i = 0; i < 4; i++) {
                Edges.due("seen(" + rows[i][0] + ", " + rows[i][1] + ")", x.seen(rows[i][0], rows[i][1]), i + 1);
                Edges.due("sights", x.about(5), i + 1);
            }
            for (int place : new int[] {0, 9, -1, 10, LEAST, MOST}) {
                x.seen(1, 1);
                Edges.due("seen(-1, " + place + ")", x.seen(-1, place), 0);
                Edges.due("sights", x.about(5), 0);
            }
            Edges.due("none of a new one", new NightCats().seen(-1, 0), 0);
            Edges.due("from 1 on again", x.seen(5, 5), 1);
        });
        Edges.test(29, "-2 for others (0 .. 99; 0 .. 9), or if there are 10.", () -> {
            int[][] rows = {{-2, 0}, {100, 0}, {0, -1}, {0, 10}, {LEAST, 0}, {MOST, 0}, {0, LEAST}, {0, MOST}, {100, 10}};
            for (int[] row : rows) {
                Edges.still("seen(" + row[0] + ", " + row[1] + ")", QuestionsEdges::furnished, x -> x.seen(row[0], row[1]), -2);
            }
        });
        Edges.test(29, "or if there are 10", () -> {
            int[] ten = {0, 0, 1, 1, 2, 2, 3, 3, 4, 4, 5, 5, 6, 6, 7, 7, 8, 8, 9, 9};
            Edges.due("ten", sights(ten).about(5), 10);
            Edges.still("the eleventh", () -> sights(ten), x -> x.seen(10, 0), -2);
            Edges.still("the eleventh, of others", () -> sights(ten), x -> x.seen(100, 0), -2);
            NightCats x = sights(ten);
            Edges.due("none any more", x.seen(-1, 0), 0);
            for (int i = 1; i <= 10; i++) {
                Edges.due("again", x.seen(1, 1), i);
            }
            Edges.due("the eleventh", x.seen(1, 1), -2);
        });
    }

    private static void same() {
        Edges.test(32, SIGHTS, () -> {
            for (int hours = 0; hours <= 6; hours++) {
                for (int place = 0; place < 10; place++) {
                    NightCats x = sights(50, 8, 50 + hours, place, 50 - hours, place);
                    int far = Math.min((place - 8 + 10) % 10, (8 - place + 10) % 10);
                    Edges.due(hours + " hours from 8 to " + place, x.same(0, 1), far <= hours);
                    Edges.due("back", x.same(1, 0), far <= hours);
                    Edges.due("ahead", x.same(0, 2), far <= hours);
                }
            }
            Edges.due("from 0 to 99", sights(0, 0, 99, 5).same(0, 1), true);
        });
        Edges.test(32, "(at the same HOUR: the same PLACE; one with itself: so)", () -> {
            NightCats x = sights(7, 3, 7, 3, 7, 4, 7, 2);
            Edges.due("the same", x.same(0, 1), true);
            Edges.due("above", x.same(0, 2), false);
            Edges.due("below", x.same(0, 3), false);
            for (int i = 0; i < 4; i++) {
                Edges.due("with itself", x.same(i, i), true);
            }
        });
        Edges.test(32, "Whether two SIGHTS can be of one. False for others.", () -> {
            int[][] rows = {{-1, 0}, {0, -1}, {2, 0}, {0, 2}, {2, 2}, {-1, -1}, {10, 10}, {LEAST, 0}, {0, MOST}, {MOST, MOST}};
            for (int[] row : rows) {
                Edges.still("same(" + row[0] + ", " + row[1] + ")", QuestionsEdges::furnished, x -> Edges.one(x.same(row[0], row[1])), 0);
            }
            Edges.due("of none", new NightCats().same(0, 0), false);
            NightCats gone = sights(1, 1, 1, 1);
            gone.seen(-1, 0);
            Edges.due("none any more", gone.same(0, 0), false);
            NightCats ten = sights(1, 1, 1, 1, 1, 1, 1, 1, 1, 1, 1, 1, 1, 1, 1, 1, 1, 1, 1, 1);
            Edges.due("the last of ten", ten.same(9, 9), true);
            Edges.due("behind ten", ten.same(10, 9), false);
        });
    }

    private static void fewest() {
        Edges.test(30, FEWEST, () -> {
            Edges.due("without SIGHTS", sights().fewest(), 0);
            Edges.due("one", sights(5, 5).fewest(), 1);
            Edges.due("one at one place and hour", sights(5, 5, 5, 5).fewest(), 1);
            Edges.due("two at one hour", sights(5, 5, 5, 6).fewest(), 2);
            Edges.due("a place an hour", sights(5, 5, 6, 6, 7, 7).fewest(), 1);
            Edges.due("two places in an hour", sights(5, 5, 6, 7).fewest(), 2);
            Edges.due("ten at one hour", sights(1, 0, 1, 1, 1, 2, 1, 3, 1, 4, 1, 5, 1, 6, 1, 7, 1, 8, 1, 9).fewest(), 10);
            Edges.due("ten of one", sights(0, 0, 9, 0, 18, 0, 27, 0, 36, 0, 45, 0, 54, 0, 63, 0, 72, 0, 99, 0).fewest(), 1);
        });
        Edges.test(30, "FEWEST.", () -> {
            NightCats x = sights(5, 5, 5, 6);
            x.seen(-1, 0);
            Edges.due("none any more", x.fewest(), 0);
            Edges.still("none yet", NightCats::new, NightCats::fewest, 0);
            x.seen(5, 5);
            x.seen(5, 5);
            Edges.due("one", x.fewest(), 1);
            x.seen(-1, 0);
            x.seen(5, 5);
            x.seen(5, 6);
            Edges.due("others then", x.fewest(), 2);
            Edges.due("of the first", x.track(0), 0);
            Edges.due("of the second", x.track(1), 1);
            x.seen(6, 6);
            Edges.due("one more", x.track(2), 0);
            x.seen(6, 8);
            Edges.due("one more, too far", x.track(3), 2);
            Edges.due("three", x.fewest(), 3);
        });
        Edges.test(30, "each two of one CAT can be of one", () -> {
            NightCats x = sights(0, 0, 1, 1, 1, 2);
            Edges.due("0 and 1", x.same(0, 1), true);
            Edges.due("1 and 2", x.same(1, 2), false);
            Edges.due("two", x.fewest(), 2);
            NightCats y = sights(0, 0, 2, 2, 0, 4);
            Edges.due("0 and 1", y.same(0, 1), true);
            Edges.due("1 and 2", y.same(1, 2), true);
            Edges.due("0 and 2", y.same(0, 2), false);
            Edges.due("two", y.fewest(), 2);
        });
    }

    private static void track(int[] sights, int... tracks) {
        NightCats x = sights(sights);
        int most = -1;
        for (int i = 0; i < tracks.length; i++) {
            Edges.due("track(" + i + ")", x.track(i), tracks[i]);
            most = Math.max(most, tracks[i]);
        }
        Edges.due("as many as FEWEST", x.fewest(), most + 1);
        Edges.due("behind them", x.track(tracks.length), -1);
    }

    private static void tracks() {
        Edges.test(31, "a TRACK: of such ways that in which the number of the CAT (from 0) of SIGHT 0 is lowest, then of 1, ..", () -> {
            track(new int[] {}, new int[] {});
            track(new int[] {5, 5}, 0);
            track(new int[] {5, 5, 5, 6}, 0, 1);
            track(new int[] {5, 6, 5, 5, 5, 6}, 0, 1, 0);
            // the first way would need a third cat: 2 must leave 0 to 3
            track(new int[] {0, 0, 0, 4, 2, 2, 2, 0}, 0, 1, 1, 0);
            // the lowest, not the nearest
            track(new int[] {0, 0, 0, 1, 5, 1, 5, 0}, 0, 1, 0, 1);
            track(new int[] {1, 0, 1, 1, 1, 2, 1, 3, 1, 4, 1, 5, 1, 6, 1, 7, 1, 8, 1, 9}, 0, 1, 2, 3, 4, 5, 6, 7, 8, 9);
        });
        Edges.test(31, "A TRACK: which the i-th SIGHT belongs to.", () -> {
            NightCats x = sights(3, 3, 3, 8, 4, 4, 4, 9);
            int[] due = {0, 1, 0, 1};
            for (int i = 0; i < 4; i++) {
                Edges.due("track(" + i + ")", x.track(i), due[i]);
            }
        });
        Edges.test(31, "NONE for others.", () -> {
            for (int i : new int[] {-1, 2, 10, LEAST, MOST}) {
                Edges.still("track(" + i + ")", QuestionsEdges::furnished, x -> x.track(i), -1);
            }
            Edges.due("without SIGHTS", new NightCats().track(0), -1);
            NightCats x = sights(5, 5, 5, 6);
            x.seen(-1, 0);
            Edges.due("none any more", x.track(0), -1);
            Edges.due("behind ten", sights(1, 0, 1, 1, 1, 2, 1, 3, 1, 4, 1, 5, 1, 6, 1, 7, 1, 8, 1, 9).track(10), -1);
        });
    }

    /** Houses 0 (door 3, dream 20), 1 (door 7, dream 5); cats 0 (at 3, cold 4), 1 (at 7, cold 2), 2 (at 0, cold 4), nothing told. */
    private static NightCats three() {
        NightCats x = new NightCats();
        x.house(3, 20);
        x.house(7, 5);
        x.cat(3, 4);
        x.cat(7, 2);
        x.cat(0, 4);
        return x;
    }

    private static void told() {
        Edges.test(33, "TOLD: how many there are (house NONE: none any more).", () -> {
            NightCats x = three();
            Edges.due("told(0, 0)", x.told(0, 0), 1);
            Edges.due("told(1, 99)", x.told(1, 99), 2);
            Edges.due("told(1, 0)", x.told(1, 0), 3);
            for (int gone : new int[] {0, 99, -1, 100, LEAST, MOST}) {
                x.told(0, 1);
                Edges.due("told(-1, " + gone + ")", x.told(-1, gone), 0);
                Edges.due("about(6)", x.about(6), 0);
            }
            Edges.due("none of a new one", new NightCats().told(-1, 0), 0);
            Edges.due("from 1 on again", x.told(0, 1), 1);
        });
        Edges.test(33, "-2 for others (0 .. 99), or if there are 8.", () -> {
            int[][] rows = {{-2, 0}, {3, 0}, {6, 0}, {0, -1}, {0, 100}, {LEAST, 0}, {MOST, 0}, {0, LEAST}, {0, MOST}};
            for (int[] row : rows) {
                Edges.still("told(" + row[0] + ", " + row[1] + ")", QuestionsEdges::furnished, x -> x.told(row[0], row[1]), -2);
            }
            Edges.due("of none", new NightCats().told(0, 0), -2);
            Edges.due("house 6 of six", DeedsEdges.crowded().told(6, 0), -2);
            Edges.due("house 5 of six", DeedsEdges.crowded().told(5, 0), 1);
        });
        Edges.test(33, "or if there are 8", () -> {
            Edges.still("the ninth", () -> eightTold(), x -> x.told(0, 4), -2);
            Edges.still("the ninth, of others", () -> eightTold(), x -> x.told(0, 100), -2);
            NightCats x = eightTold();
            Edges.due("eight", x.about(6), 8);
            x.told(-1, 0);
            for (int i = 1; i <= 8; i++) {
                Edges.due("again", x.told(1, 1), i);
            }
            Edges.due("the ninth", x.told(1, 1), -2);
        });
        Edges.test(34, "WHICH: CATS (bits) by whose takes (as now, wherever it is) all are so (nothing TOLD: all)", () -> {
            NightCats x = three();
            Edges.due("nothing TOLD: all", x.which(), 7);
            x.told(0, 4);
            Edges.due("those of COLD 4", x.which(), 5);
            x.let(0, 0);
            Edges.due("wherever it is", x.which(), 5);
            x.told(1, 4);
            Edges.due("in both", x.which(), 5);
            x.told(0, 2);
            Edges.due("none by all", x.which(), 0);
            x.told(-1, 0);
            Edges.due("nothing TOLD any more", x.which(), 7);
            x.told(1, 5);
            Edges.due("none", x.which(), 0);
            Edges.rule(x, "takes dream;");
            Edges.due("as now: by the dream, all", x.which(), 7);
            x.hour(1);
            x.out(0);
            x.let(0, 0);
            x.told(-1, 0);
            x.told(0, 0);
            Edges.due("as now: nothing is left", x.which(), 7);
        });
        Edges.test(34, "WHICH: CATS (bits).", () -> {
            Edges.due("of no CATS", new NightCats().which(), 0);
            Edges.due("of six", DeedsEdges.crowded().which(), 63);
            NightCats six = DeedsEdges.crowded();
            six.told(5, 6);
            Edges.due("the sixth", six.which(), 32);
        });
        Edges.test(34, "all are so", () -> {
            NightCats x = eightTold();
            Edges.due("eight that are so", x.which(), 5);
            x.told(-1, 0);
            for (int i = 0; i < 7; i++) {
                x.told(0, 4);
            }
            x.told(1, 2);
            Edges.due("but for the eighth", x.which(), 0);
        });
    }

    private static NightCats eightTold() {
        NightCats x = three();
        for (int i = 0; i < 8; i++) {
            x.told(i % 2, 4);
        }
        return x;
    }

    private static void ratio(String name, NightCats x, int cat, long upper, long lower) {
        Edges.due(name + ", upper of " + cat, x.likely(cat, false), upper);
        Edges.due(name + ", lower of " + cat, x.likely(cat, true), lower);
    }

    private static void likely() {
        Edges.test(35, "LIKELY: each CAT that fits counts as often as 10 less its COLD: of all that fit, in lowest terms (of one that doesn't 0 by 1).", () -> {
            // 6, 8 and 6 of 20
            ratio("three", three(), 0, 3, 10);
            ratio("three", three(), 1, 2, 5);
            NightCats x = three();
            x.told(0, 4);
            ratio("two fit", x, 0, 1, 2);
            ratio("one that doesn't", x, 1, 0, 1);
            ratio("two fit", x, 2, 1, 2);
            x.told(-1, 0);
            x.told(0, 2);
            ratio("one that doesn't", x, 0, 0, 1);
            ratio("one fits", x, 1, 1, 1);
            NightCats y = new NightCats();
            y.cat(0, 9);
            ratio("one of COLD 9", y, 0, 1, 1);
            y.cat(0, 0);
            ratio("1 and 10", y, 0, 1, 11);
            ratio("1 and 10", y, 1, 10, 11);
            NightCats six = cold(0, 0, 0, 0, 0, 0);
            ratio("six alike", six, 5, 1, 6);
        });
        Edges.test(35, "LIKELY: the upper (low false), the lower one (low true). NONE for others, or if none fits.", () -> {
            for (int cat : new int[] {-1, 4, 6, LEAST, MOST}) {
                Edges.still("likely(" + cat + ", false)", QuestionsEdges::furnished, x -> x.likely(cat, false), -1);
                Edges.still("likely(" + cat + ", true)", QuestionsEdges::furnished, x -> x.likely(cat, true), -1);
            }
            NightCats x = three();
            x.told(0, 5);
            for (int cat = 0; cat < 3; cat++) {
                ratio("none fits", x, cat, -1, -1);
            }
            ratio("no cat", new NightCats(), 0, -1, -1);
            ratio("cat 6 of six", cold(1, 2, 3, 4, 5, 6), 6, -1, -1);
            ratio("cat 5 of six", cold(1, 2, 3, 4, 5, 6), 5, 4, 39);
        });
    }

    private static void asks(String name, ToLongFunction<NightCats> more, String laws, long want) {
        NightCats x = new NightCats();
        for (int i = 0; i < 4; i++) {
            x.house(i, 10 * i + 10);
            x.cat(i, 1);
        }
        Edges.rule(x, laws);
        more.applyAsLong(x);
        Edges.due(name, x.askNext(), want);
    }

    private static void askNext() {
        Edges.test(36, "WHAT TO ASK: the HOUSE by whose takes the most CATS that fit and are alike there are fewest; of like ones the lowest; "
                + "none (no HOUSE, or fewer than two fit).", () -> {
            asks("all alike everywhere: the lowest", x -> 0, "", 0);
            asks("none alike in the last", x -> 0, "takes if dream=40 then who else 1 end;", 3);
            asks("two and two in the second, three and one in the third", x -> 0, "takes if dream=20 then who/2 else if dream=30 then who/3 else 1 end end;", 1);
            asks("three and one in the second, two and two in the third", x -> 0, "takes if dream=20 then who/3 else if dream=30 then who/2 else 1 end end;", 2);
            asks("two and two or two of four: the lowest", x -> 0, "takes if dream=20 then who/2 else if dream=30 then who/2*who else 1 end end;", 1);
            asks("of those that fit", x -> x.told(2, 0), "takes if dream=20 then who/2 else if dream=30 then who/3 else if dream=40 then who else 1 end end end;", 3);
            asks("alike at 0", x -> 0, "takes if dream=10 then 0 else who end;", 1);
            asks("two cats of like takes, unlike in the last", x -> x.told(1, 5), "takes if dream=20 then 5*(1-who/2) else if dream=40 then who else 7 end end;", 3);
            asks("alike at 99", x -> 0, "takes if dream=10 then 99+who else who end;", 1);
        });
        Edges.test(36, "the most CATS that fit and are alike there are fewest", () -> {
            for (int a = 0; a < 10; a++) {
                for (int b = 0; b < 10; b++) {
                    NightCats x = new NightCats();
                    for (int i = 0; i < 6; i++) {
                        x.house(i, 10 * i);
                        x.cat(i, i / 2);
                    }
                    Edges.rule(x, "takes turn (who*" + a + "+cold*dream/10) to (dream/10*" + b + "*who);");
                    Edges.due("who * " + a + ", dream * " + b, x.askNext(), leastAlike(x));
                }
            }
        });
        Edges.test(36, "none (no HOUSE, or fewer than two fit)", () -> {
            NightCats x = new NightCats();
            Edges.due("nothing", x.askNext(), -1);
            x.cat(0, 1);
            x.cat(0, 2);
            Edges.due("no HOUSE", x.askNext(), -1);
            x.house(0, 9);
            Edges.due("two fit", x.askNext(), 0);
            x.told(0, 1);
            Edges.due("one fits", x.askNext(), -1);
            x.told(0, 2);
            Edges.due("none fits", x.askNext(), -1);
            NightCats one = stand("5", "5");
            Edges.due("one cat", one.askNext(), -1);
            Edges.due("no cat", stand("5", "").askNext(), -1);
        });
        Edges.test(36, "WHAT TO ASK: the HOUSE. NONE: none.", () -> Edges.due("house 5 of six", lastAsked(), 5));
    }

    /** The same by what takes answers. */
    private static int leastAlike(NightCats x) {
        int best = -1;
        int least = 7;
        for (int house = 0; house < 6; house++) {
            int most = 0;
            int[] alike = new int[100];
            for (int cat = 0; cat < 6; cat++) {
                most = Math.max(most, ++alike[x.takes(cat, house)]);
            }
            if (most < least) {
                least = most;
                best = house;
            }
        }
        return best;
    }

    private static int lastAsked() {
        NightCats x = DeedsEdges.crowded();
        Edges.rule(x, "takes if dream=500 then who else 1 end;");
        return x.askNext();
    }

    private static void pairsOfThemselves() {
        Edges.test(24, "(none there: 0, 0)", () -> {
            Edges.still("match(0)", NightCats::new, x -> x.match(0), 0);
            Edges.still("match(1)", NightCats::new, x -> x.match(1), 0);
            Edges.due("houses alone", stand("123456", "").match(1), 0);
            Edges.due("cats alone", stand("", "123456").match(1), 0);
        });
        Edges.test(24, "each with one at most", () -> {
            pairs("5", "555555", 1, 0, "0");
            pairs("555555", "5", 1, 0, "-----0");
            pairs("555", "55555", 3, 0, "012");
        });
        Edges.test(24, "of CATS without and HOUSES with none in them", () -> {
            NightCats x = stand("33", "34");
            x.let(0, 0);
            Edges.due("1 to the second", x.match(0), 1);
            Edges.due("a step", x.match(1), 1);
            Edges.due("the first", x.matched(0), -1);
            Edges.due("the second", x.matched(1), 1);
            x.go(1, false);
            x.let(1, 1);
            Edges.due("none", x.match(0), 0);
        });
        Edges.test(25, "(none is lower than any)", () -> {
            pairs("33", "3", 1, 0, "-0");
            pairs("43", "3", 1, 0, "-0");
            pairs("34", "3", 1, 0, "0-");
            pairs("3333", "33", 2, 0, "--01");
            pairs("3533", "33", 2, 0, "--01");
            pairs("3353", "33", 2, 0, "-0-1");
        });
        Edges.test(31, "(without SIGHTS 0, none)", () -> {
            Edges.still("fewest()", NightCats::new, NightCats::fewest, 0);
            for (int i = -1; i <= 1; i++) {
                int which = i;
                Edges.still("track(" + i + ")", NightCats::new, x -> x.track(which), -1);
            }
        });
        Edges.test(29, "(hour NONE: none any more)", () -> {
            NightCats x = sights(1, 1, 2, 2, 3, 9);
            x.seen(-1, 3);
            Edges.due("sights", x.about(5), 0);
            Edges.due("fewest", x.fewest(), 0);
            Edges.due("track", x.track(0), -1);
            Edges.due("same", x.same(0, 0), false);
        });
        Edges.test(22, "1 .. 60; those that can pass", () -> {
            for (int n : new int[] {0, 1, 60, 61}) {
                Edges.due("foretold(" + n + ")", furnished().foretold(n, 1, 2), n < 1 || n > 60 ? -1 : 999);
            }
        });
    }

    private static void clues() {
        Edges.test(33, "(house NONE: none any more)", () -> {
            NightCats x = eightTold();
            x.told(-1, 50);
            Edges.due("told", x.about(6), 0);
            Edges.due("which", x.which(), 7);
        });
        Edges.test(34, "(nothing TOLD: all)", () -> {
            for (int cats = 0; cats <= 6; cats++) {
                NightCats x = new NightCats();
                for (int i = 0; i < cats; i++) {
                    x.cat(i, i);
                }
                Edges.due("of " + cats, x.which(), (1 << cats) - 1);
            }
        });
        Edges.test(34, "(as now, wherever it is)", () -> {
            NightCats x = three();
            Edges.rule(x, "takes place+taken+dream;");
            x.told(1, 12);
            Edges.due("at 7, by 5 of dream", x.which(), 2);
            x.go(0, true);
            x.go(0, true);
            x.go(0, true);
            x.go(0, true);
            Edges.due("two at 7", x.which(), 3);
            x.let(0, 1);
            Edges.due("one of them in the house", x.which(), 3);
            x.by(-1);
            Edges.due("by COLD", x.which(), 0);
        });
        Edges.test(35, "(of one that doesn't 0 by 1)", () -> {
            NightCats x = three();
            x.told(0, 2);
            ratio("one that doesn't", x, 0, 0, 1);
            ratio("the one that does", x, 1, 1, 1);
            ratio("one that doesn't", x, 2, 0, 1);
        });
        Edges.test(35, "or if none fits", () -> {
            Edges.still("none fits", () -> {
                NightCats x = three();
                x.told(0, 99);
                return x;
            }, x -> x.likely(1, true), -1);
            ratio("no cat at all", new NightCats(), 0, -1, -1);
        });
        Edges.test(36, "of like ones the lowest", () -> {
            asks("the first of all alike", x -> 0, "takes 1;", 0);
            NightCats six = DeedsEdges.crowded();
            Edges.rule(six, "takes 9;");
            Edges.due("six alike in each of six", six.askNext(), 0);
            asks("the second of two", x -> 0, "takes if dream=10 then 1 else who end;", 1);
            asks("the third of two", x -> 0, "takes if dream<30 then 1 else who end;", 2);
        });
        Edges.test(36, "or fewer than two fit", () -> {
            NightCats x = three();
            x.told(0, 2);
            Edges.due("one", x.askNext(), -1);
            x.told(0, 4);
            Edges.due("none", x.askNext(), -1);
            x.told(-1, 0);
            x.told(0, 4);
            Edges.due("two", x.askNext(), 0);
        });
    }
}
