/** Promises 1 to 3, 9 to 21, 54 to 56 and part V: what is told, done, taken back, kept. */
final class DeedsEdges {
    private static final int LEAST = Integer.MIN_VALUE;
    private static final int MOST = Integer.MAX_VALUE;
    private static final String YEARS = "YEARS by a SEED: X is SEED (0 .. 9999) * 2 + 397; n times (1 .. 40): x is X, then X is anew (as in a draw by 3): x mod 6: "
            + "0, 1 CAT x / 6 mod how many is LET IN to HOUSE x mod how many; 2 the CAT in that HOUSE is PUT OUT; 3 that CAT is GONE up, if x / 6 is even, "
            + "else down (each if it can be); 4, 5 an HOUR (if it can pass).";

    private DeedsEdges() {
    }

    static void all() {
        newObject();
        houses();
        cats();
        letting();
        outing();
        going();
        hours();
        hoursBeyond();
        years();
        drawsOfYears();
        noneOfThem();
        undoing();
        asked();
        lawsAsked();
        state();
        book();
        image();
        back();
        about();
        refused();
        drawsThatCant();
    }

    /** Houses 0 (door 3), 1 (door 7), 2 (door 9); cats 0 (in house 0), 1, 2, 3; laws; five steps, the image being as it was ahead of the latest three; some of all that is told. */
    static NightCats furnished() {
        NightCats x = new NightCats();
        x.house(3, 20);
        x.house(7, 5);
        x.house(9, 999);
        x.cat(3, 4);
        x.cat(6, 2);
        x.cat(0, 4);
        x.cat(9, 1);
        Due.read(x, "takes cold+1;goes taken-20;");
        x.by(0);
        x.let(0, 0);
        x.hour(1);
        x.image();
        x.hour(1);
        x.seen(4, 4);
        x.seen(5, 9);
        x.told(0, 5);
        x.piece(2, 1);
        x.piece(3, 5);
        x.said(0, 0, 5);
        x.out(0);
        x.let(0, 0);
        Due.read(x, "up 6;");
        Due.tape(x, "goes 4");
        return x;
    }

    /** Six houses and six cats at place 4, of cold 1 to 6. */
    static NightCats crowded() {
        NightCats x = new NightCats();
        for (int i = 0; i < 6; i++) {
            x.house(4, 100 * i);
            x.cat(4, 1 + i);
        }
        x.let(2, 3);
        x.hour(1);
        return x;
    }

    /** The latest hour is 9999 less so many; a cat in a house. */
    static NightCats late(int less) {
        NightCats x = new NightCats();
        x.house(3, 500);
        x.cat(3, 2);
        for (int i = 0; i < 166; i++) {
            x.hour(60);
        }
        if (less < 39) {
            x.hour(39 - less);
        }
        for (int i = 0; i < 10 && !x.let(0, 0); i++) {
            x.go(0, true);
        }
        return x;
    }

    private static int next(int x) {
        return (x * 647 + 509) % 30931;
    }

    private static void newObject() {
        Edges.test(1, "Nobody; THE IMAGE is this.", () -> {
            NightCats x = new NightCats();
            for (int what = 0; what < 10; what++) {
                Edges.due("about(" + what + ")", x.about(what), what == 3 ? -1 : 0);
            }
            int[] is = {0, 397, 0, 0};
            for (int what = 0; what < 4; what++) {
                Edges.due("is(" + what + ")", x.is(what), is[what]);
            }
            Edges.due("no step", x.undo(), -1);
            Edges.due("no book", x.book(-1, 0), 0);
            Edges.due("no cat", x.of(0, 0), -2);
            Edges.due("no house", x.ofHouse(0, 0), -2);
            Edges.due("the constant", NightCats.NONE, -1);
        });
        Edges.test(1, "THE IMAGE is this", () -> {
            Edges.still("back() of a new one", NightCats::new, NightCats::back, 0);
            for (int way = 0; way < Looks.WAYS; way++) {
                NightCats x = new NightCats();
                x.house(3, 20);
                x.cat(3, 4);
                x.let(0, 0);
                x.hour(60);
                x.seen(1, 1);
                x.told(0, 1);
                x.piece(1, 1);
                x.said(0, 0, 1);
                Edges.due("back", x.back(), 0);
                Edges.due("all as new", Looks.look(x, way).equals(Looks.look(new NightCats(), way)), true);
            }
            NightCats texts = new NightCats();
            Due.read(texts, "takes 7;");
            texts.by(0);
            texts.back();
            Edges.due("no texts", texts.about(2), 0);
            Edges.due("none rules", texts.about(3), -1);
            Edges.due("by(0)", texts.by(0), false);
        });
    }

    private static void houses() {
        Edges.test(2, "A HOUSE: its number.", () -> {
            NightCats x = new NightCats();
            int[][] rows = {{0, 0}, {9, 999}, {0, 999}, {9, 0}, {1, 998}, {8, 1}};
            for (int i = 0; i < 6; i++) {
                Edges.due("house", x.house(rows[i][0], rows[i][1]), i);
                Edges.due("door", x.ofHouse(i, 0), rows[i][0]);
                Edges.due("dream", x.ofHouse(i, 1), rows[i][1]);
                Edges.due("houses", x.about(0), i + 1);
            }
        });
        Edges.test(2, "NONE for others (0 .. 9; 0 .. 999), or if there are 6.", () -> {
            int[][] rows = {{-1, 5}, {10, 5}, {5, -1}, {5, 1000}, {-1, -1}, {10, 1000}, {LEAST, 5}, {MOST, 5}, {5, LEAST}, {5, MOST}, {999, 9}};
            for (int[] row : rows) {
                Edges.still("house(" + row[0] + ", " + row[1] + ")", DeedsEdges::furnished, x -> x.house(row[0], row[1]), -1);
            }
        });
        Edges.test(2, "or if there are 6", () -> {
            Edges.still("the seventh house", DeedsEdges::crowded, x -> x.house(0, 0), -1);
            Edges.still("the seventh house", DeedsEdges::crowded, x -> x.house(9, 999), -1);
            Edges.still("the seventh house, of others", DeedsEdges::crowded, x -> x.house(10, 0), -1);
            NightCats x = new NightCats();
            x.image();
            for (int round = 0; round < 2; round++) {
                for (int i = 0; i < 6; i++) {
                    Edges.due("house", x.house(1, 1), i);
                }
                Edges.due("the seventh", x.house(1, 1), -1);
                x.back();
            }
        });
    }

    private static void cats() {
        Edges.test(3, "A CAT: its number.", () -> {
            NightCats x = new NightCats();
            int[][] rows = {{0, 0}, {9, 9}, {0, 9}, {9, 0}, {1, 8}, {8, 1}};
            for (int i = 0; i < 6; i++) {
                Edges.due("cat", x.cat(rows[i][0], rows[i][1]), i);
                Edges.due("place", x.of(i, 0), rows[i][0]);
                Edges.due("cold", x.of(i, 1), rows[i][1]);
                Edges.due("cats", x.about(1), i + 1);
            }
        });
        Edges.test(3, "NONE for others (PLACES 0 .. 9; 0 .. 9), or if there are 6.", () -> {
            int[][] rows = {{-1, 5}, {10, 5}, {5, -1}, {5, 10}, {-1, -1}, {10, 10}, {LEAST, 5}, {MOST, 5}, {5, LEAST}, {5, MOST}};
            for (int[] row : rows) {
                Edges.still("cat(" + row[0] + ", " + row[1] + ")", DeedsEdges::furnished, x -> x.cat(row[0], row[1]), -1);
            }
        });
        Edges.test(3, "or if there are 6", () -> {
            Edges.still("the seventh cat", DeedsEdges::crowded, x -> x.cat(0, 0), -1);
            Edges.still("the seventh cat", DeedsEdges::crowded, x -> x.cat(9, 9), -1);
            Edges.still("the seventh cat, of others", DeedsEdges::crowded, x -> x.cat(0, 10), -1);
        });
    }

    private static void letting() {
        Edges.test(9, "LET IN: true.", () -> {
            NightCats x = crowded();
            for (int i = 0; i < 10 && x.of(5, 0) != 4; i++) {
                x.go(5, true);
            }
            Edges.due("the last cat to the last house", x.let(5, 5), true);
            Edges.due("it is in", x.ofHouse(5, 2), 5);
            for (int i = 0; i < 10 && x.of(0, 0) != 4; i++) {
                x.go(0, true);
            }
            Edges.due("the first cat to the first house", x.let(0, 0), true);
            Edges.due("it is in", x.of(0, 2), 0);
            Edges.due("came", x.ofHouse(0, 3), 1);
        });
        Edges.test(9, "False, if it can't be, and for others.", () -> {
            int[][] rows = {{-1, 1}, {4, 1}, {LEAST, 1}, {MOST, 1}, {1, -1}, {1, 3}, {1, LEAST}, {1, MOST}, {-1, -1}, {6, 6}, {0, 0}, {0, 1}, {2, 1}, {1, 0}};
            for (int[] row : rows) {
                Edges.still("let(" + row[0] + ", " + row[1] + ")", DeedsEdges::furnished, x -> Edges.one(x.let(row[0], row[1])), 0);
            }
            Edges.still("let(0, 0) of none", NightCats::new, x -> Edges.one(x.let(0, 0)), 0);
            Edges.still("let(6, 0) of six", DeedsEdges::crowded, x -> Edges.one(x.let(6, 0)), 0);
            Edges.still("let(0, 6) of six", DeedsEdges::crowded, x -> Edges.one(x.let(0, 6)), 0);
        });
    }

    private static void outing() {
        Edges.test(10, "PUT OUT: the CAT.", () -> {
            NightCats x = crowded();
            Edges.due("out(3)", x.out(3), 2);
            x.let(2, 0);
            Edges.due("out(0)", x.out(0), 2);
            x.let(2, 5);
            Edges.due("out(5)", x.out(5), 2);
            NightCats y = furnished();
            Edges.due("cat 0", y.out(0), 0);
        });
        Edges.test(10, "NONE, if there is none in it, and for others.", () -> {
            int[] rows = {1, 2, -1, 3, 6, LEAST, MOST};
            for (int house : rows) {
                Edges.still("out(" + house + ")", DeedsEdges::furnished, x -> x.out(house), -1);
            }
            // cats without are in no house, NONE isn't one
            Edges.still("out(-1)", () -> {
                NightCats x = new NightCats();
                x.cat(0, 0);
                return x;
            }, x -> x.out(-1), -1);
            Edges.still("out(6) of six", DeedsEdges::crowded, x -> x.out(6), -1);
            Edges.still("out(0) of none", NightCats::new, x -> x.out(0), -1);
        });
    }

    private static void going() {
        Edges.test(11, "GONE: true.", () -> {
            NightCats x = furnished();
            int place = x.of(3, 0);
            Edges.due("go(3, up)", x.go(3, true), true);
            Edges.due("place", x.of(3, 0), (place + 1) % 10);
            Edges.due("go(3, down)", x.go(3, false), true);
            Edges.due("place", x.of(3, 0), place);
            NightCats y = crowded();
            place = y.of(5, 0);
            Edges.due("go(5, down)", y.go(5, false), true);
            Edges.due("place", y.of(5, 0), (place + 9) % 10);
        });
        Edges.test(11, "False, if it can't be, and for others.", () -> {
            int[] rows = {0, -1, 4, 6, LEAST, MOST};
            for (int cat : rows) {
                Edges.still("go(" + cat + ", up)", DeedsEdges::furnished, x -> Edges.one(x.go(cat, true)), 0);
                Edges.still("go(" + cat + ", down)", DeedsEdges::furnished, x -> Edges.one(x.go(cat, false)), 0);
            }
            Edges.still("go(6, up) of six", DeedsEdges::crowded, x -> Edges.one(x.go(6, true)), 0);
            Edges.still("go(0, up) of none", NightCats::new, x -> Edges.one(x.go(0, true)), 0);
        });
    }

    private static void hours() {
        Edges.test(12, "HOURS pass (1 .. 60): how much dream is taken in them.", () -> {
            NightCats x = new NightCats();
            x.house(3, 999);
            x.house(4, 30);
            x.cat(3, 9);
            x.cat(4, 7);
            x.let(0, 0);
            x.let(1, 1);
            Edges.due("hour(1)", x.hour(1), 16);
            Edges.due("hour", x.is(0), 1);
            Edges.due("hour(2)", x.hour(2), 32);
            Edges.due("2 are left of 30", x.hour(1), 9 + 7);
            Edges.due("and 2", x.hour(1), 9 + 2);
            Edges.due("hour(60)", x.hour(60), 540);
            Edges.due("hour", x.is(0), 65);
            Edges.due("none taken without", new NightCats().hour(60), 0);
        });
        Edges.test(12, "NONE for others, or beyond 9999 (nothing is done then).", () -> {
            int[] rows = {0, -1, 61, 62, LEAST, MOST};
            for (int n : rows) {
                Edges.still("hour(" + n + ")", DeedsEdges::furnished, x -> x.hour(n), -1);
                Edges.still("hour(" + n + ") of a new one", NightCats::new, x -> x.hour(n), -1);
            }
        });
    }

    private static void hoursBeyond() {
        Edges.test(12, "or beyond 9999 (nothing is done then)", () -> {
            Edges.still("40 of 39", () -> late(39), x -> x.hour(40), -1);
            Edges.still("60 of 39", () -> late(39), x -> x.hour(60), -1);
            Edges.still("2 of 1", () -> late(1), x -> x.hour(2), -1);
            Edges.still("1 of 0", () -> late(0), x -> x.hour(1), -1);
            Edges.still("60 of 0", () -> late(0), x -> x.hour(60), -1);
            // 9999 and the most there is come around
            Edges.still("the most there is", () -> late(0), x -> x.hour(MOST), -1);
            Edges.still("the least there is", () -> late(1), x -> x.hour(LEAST), -1);
            Edges.due("39 of 39", late(39).hour(39), 78);
            Edges.due("38 of 39", late(39).hour(38), 76);
            Edges.due("1 of 1", late(1).hour(1), 2);
            NightCats x = late(39);
            x.hour(39);
            Edges.due("9999", x.is(0), 9999);
        });
    }

    private static void years() {
        Edges.test(14, "YEARS: HOUR.", () -> {
            NightCats x = furnished();
            Edges.due("an hour", x.years(2, 1), 3);
            Edges.due("HOUR", x.is(0), 3);
            Edges.due("no hour", x.years(1, 1), 3);
            Edges.due("at 9999", late(0).years(2, 1), 9999);
        });
        Edges.test(14, "NONE for others.", () -> {
            int[][] rows = {{-1, 1}, {10000, 1}, {0, 0}, {0, 41}, {0, -1}, {LEAST, 1}, {MOST, 1}, {5, LEAST}, {5, MOST}, {-1, 0}, {10000, 41}, {1073741824, 1}};
            for (int[] row : rows) {
                Edges.still("years(" + row[0] + ", " + row[1] + ")", DeedsEdges::furnished, x -> x.years(row[0], row[1]), -1);
            }
        });
        Edges.test(14, "X is SEED (0 .. 9999) * 2 + 397; n times (1 .. 40)", () -> {
            int[][] rows = {{0, 1}, {9999, 1}, {0, 40}, {9999, 40}, {1, 39}, {9998, 2}};
            for (int[] row : rows) {
                NightCats x = new NightCats();
                int drawn = row[0] * 2 + 397;
                int hour = 0;
                for (int i = 0; i < row[1]; i++) {
                    hour += drawn % 6 >= 4 ? 1 : 0;
                    drawn = next(drawn);
                }
                Edges.due("years(" + row[0] + ", " + row[1] + ")", x.years(row[0], row[1]), hour);
                Edges.due("X", x.is(1), drawn);
            }
        });
        Edges.test(14, "It is one STEP: HOUR.", () -> {
            NightCats x = furnished();
            int steps = x.about(4);
            String before = Looks.look(furnished(), 0);
            x.years(77, 40);
            Edges.due("one", x.about(4), steps + 1);
            Edges.due("taken back at once", x.undo(), steps);
            Edges.due("all as ahead", Looks.look(x, 0).equals(before), true);
            NightCats y = new NightCats();
            y.years(1, 1);
            Edges.due("one, though nothing was", y.about(4), 1);
            Edges.due("X", y.is(1), next(399));
            y.undo();
            Edges.due("X", y.is(1), 397);
        });
    }

    /** A first X for each x mod 6 by hand: 2 * seed + 397 is odd, so that 2, 4 and 0 come second. */
    private static void drawsOfYears() {
        Edges.test(14, YEARS, () -> {
            // 397: 1: cat 66 mod 2 to house 397 mod 5
            NightCats x = neighbours();
            x.years(0, 1);
            Edges.due("cat 0 in house 2", x.of(0, 2), 2);
            Edges.due("came", x.ofHouse(2, 3), 1);
            // 427: 1: cat 71 mod 2 to house 427 mod 5: one is in it
            x.years(15, 1);
            Edges.due("cat 1 can't", x.of(1, 2), -1);
            // 403: 1: cat 67 mod 2 to house 403 mod 5
            x.years(3, 1);
            Edges.due("cat 1 in house 3", x.of(1, 2), 3);
            x.out(3);
            // 405: 3: cat 67 mod 2 down; 399: 3: cat 66 mod 2, in a house
            x.years(4, 1);
            Edges.due("cat 1 is down", x.of(1, 0), 2);
            x.years(1, 1);
            Edges.due("cat 0 isn't gone", x.of(0, 0), 3);
            Edges.due("nor out", x.of(0, 2), 2);
            // 411: 3: 68, even: cat 0 up, once out
            x.out(2);
            x.years(7, 1);
            Edges.due("cat 0 is up", x.of(0, 0), 4);
            // 401: 5: an hour
            Edges.due("an hour", x.years(2, 1), 1);
        });
        Edges.test(14, "x mod 6", () -> {
            int[] seen = new int[6];
            for (int seed = 0; seed < 300; seed++) {
                int first = seed * 2 + 397;
                if (first % 6 == 3) {
                    seen[next(first) % 6]++;
                    secondDraw(seed, first, next(first));
                }
            }
            for (int i = 0; i < 6; i += 2) {
                Edges.due("x mod 6 is " + i + " at times", Edges.one(seen[i] > 0), 1);
            }
        });
        Edges.test(14, "It is one STEP", () -> {
            for (int seed = 0; seed < 400; seed++) {
                NightCats x = neighbours();
                x.go(0, true);
                NightCats y = neighbours();
                y.go(0, true);
                x.years(seed, 6);
                Edges.due("one, seed " + seed, x.about(4), 2);
                Edges.due("taken back, seed " + seed, x.undo(), 1);
                Edges.due("all as ahead, seed " + seed, Looks.look(x, 0), Looks.look(y, 0));
                Edges.due("and all of it", x.undo(), 0);
            }
        });
    }

    /** Five houses of 50 at place 3, two cats there. */
    private static NightCats neighbours() {
        NightCats x = new NightCats();
        for (int i = 0; i < 5; i++) {
            x.house(3, 50);
        }
        x.cat(3, 2);
        x.cat(3, 5);
        return x;
    }

    /** A first draw by which one goes, so that it stands at the door then, and a second one. */
    private static void secondDraw(int seed, int first, int second) {
        NightCats x = neighbours();
        int kind = second % 6;
        int house = second % 5;
        int cat = second / 6 % 2;
        if (kind == 2) {
            x.let(1, house);
            x.let(0, (house + 1) % 5);
            x.years(seed, 2);
            Edges.due("one is put out, seed " + seed, x.of(1, 2), -1);
            Edges.due("the other isn't", x.of(0, 2), (house + 1) % 5);
            Edges.due("written down", x.book(2, 3), 1);
            Edges.due("the house", x.book(2, 2), house);
            Edges.due("one step", x.about(4), 3);
            return;
        }
        x.go(first / 6 % 2, first / 6 % 2 == 1);
        x.years(seed, 2);
        Edges.due("an hour, seed " + seed, x.is(0), kind >= 4 ? 1 : 0);
        Edges.due("written down", x.book(-1, 0), kind < 2 ? 1 : 0);
        Edges.due("one step", x.about(4), 2);
        if (kind < 2) {
            Edges.due("let in, seed " + seed, x.of(cat, 2), house);
            Edges.due("the cat", x.ofHouse(house, 2), cat);
        }
    }

    private static void noneOfThem() {
        Edges.test(14, "What there are none of isn't.", () -> {
            for (int seed = 0; seed < 40; seed++) {
                NightCats none = new NightCats();
                NightCats house = new NightCats();
                NightCats cat = new NightCats();
                house.house(5, 9);
                cat.cat(5, 1);
                int drawn = seed * 2 + 397;
                int hours = 0;
                for (int i = 0; i < 9; i++) {
                    hours += drawn % 6 >= 4 ? 1 : 0;
                    drawn = next(drawn);
                }
                Edges.due("no house, no cat", none.years(seed, 9), hours);
                Edges.due("X", none.is(1), drawn);
                Edges.due("no cat", house.years(seed, 9), hours);
                Edges.due("X", house.is(1), drawn);
                Edges.due("none came", house.ofHouse(0, 3), 0);
                cat.years(seed, 9);
                Edges.due("no house", cat.of(0, 2), -1);
                Edges.due("nothing is written down", cat.book(-1, 0), 0);
            }
            // 399: 3, 66 is even: the cat goes up though there is no house; 405: 67 is odd
            NightCats x = new NightCats();
            x.cat(9, 1);
            x.years(1, 1);
            Edges.due("up", x.of(0, 0), 0);
            x.years(4, 1);
            Edges.due("down", x.of(0, 0), 9);
        });
    }

    private static void undoing() {
        Edges.test(15, "The latest STEP is taken back: how many can be yet.", () -> {
            NightCats x = furnished();
            for (int i = 4; i >= 0; i--) {
                Edges.due("undo", x.undo(), i);
                Edges.due("steps", x.about(4), i);
            }
            Edges.due("hour", x.is(0), 0);
            NightCats y = new NightCats();
            y.hour(60);
            for (int i = 29; i >= 0; i--) {
                Edges.due("undo", y.undo(), i);
            }
            Edges.due("30 of 60 are left", y.is(0), 30);
            Edges.due("no more", y.undo(), -1);
        });
        Edges.test(15, "NONE: there is none.", () -> {
            Edges.still("undo of a new one", NightCats::new, NightCats::undo, -1);
            Edges.still("undo when all is taken back", () -> {
                NightCats x = furnished();
                for (int i = 0; i < 5; i++) {
                    x.undo();
                }
                return x;
            }, NightCats::undo, -1);
            Edges.still("undo of what is told", () -> {
                NightCats x = new NightCats();
                x.house(3, 4);
                x.cat(3, 4);
                x.seen(1, 1);
                return x;
            }, NightCats::undo, -1);
        });
    }

    private static void asked() {
        Edges.test(16, "Of a CAT: 0 PLACE, 1 COLD, 2 in which HOUSE (NONE: without), 3 TAKEN.", () -> {
            NightCats x = furnished();
            int[] row = {3, 4, 0, 10};
            for (int what = 0; what < 4; what++) {
                Edges.due("of(0, " + what + ")", x.of(0, what), row[what]);
            }
            Edges.due("without", x.of(1, 2), -1);
            NightCats y = crowded();
            int[] sixth = {y.of(5, 0), 6, -1, 0};
            for (int what = 1; what < 4; what++) {
                Edges.due("of(5, " + what + ")", y.of(5, what), sixth[what]);
            }
            Edges.due("in house 3", y.of(2, 2), 3);
        });
        Edges.test(16, "-2 for others.", () -> {
            int[][] rows = {{0, -1}, {0, 4}, {3, -1}, {3, 4}, {4, 0}, {-1, 0}, {-1, 2}, {6, 0}, {LEAST, 0}, {MOST, 0}, {0, LEAST}, {0, MOST}};
            for (int[] row : rows) {
                Edges.still("of(" + row[0] + ", " + row[1] + ")", DeedsEdges::furnished, x -> x.of(row[0], row[1]), -2);
            }
            Edges.due("of(6, 0) of six", crowded().of(6, 0), -2);
            Edges.due("of(0, 0) of none", new NightCats().of(0, 0), -2);
        });
        Edges.test(17, "Of a HOUSE: 0 its door, 1 DREAM, 2 the CAT in it (NONE: none), 3 how many came.", () -> {
            NightCats x = furnished();
            int[][] rows = {{3, 10, 0, 2}, {7, 5, -1, 0}, {9, 999, -1, 0}};
            for (int house = 0; house < 3; house++) {
                for (int what = 0; what < 4; what++) {
                    Edges.due("ofHouse(" + house + ", " + what + ")", x.ofHouse(house, what), rows[house][what]);
                }
            }
            NightCats y = crowded();
            Edges.due("the sixth", y.ofHouse(5, 1), 500);
            Edges.due("the cat in it", y.ofHouse(3, 2), 2);
        });
        Edges.test(17, "-2 for others.", () -> {
            int[][] rows = {{0, -1}, {0, 4}, {2, -1}, {2, 4}, {3, 0}, {-1, 0}, {-1, 2}, {6, 0}, {LEAST, 0}, {MOST, 0}, {0, LEAST}, {0, MOST}};
            for (int[] row : rows) {
                Edges.still("ofHouse(" + row[0] + ", " + row[1] + ")", DeedsEdges::furnished, x -> x.ofHouse(row[0], row[1]), -2);
            }
            Edges.due("ofHouse(6, 0) of six", crowded().ofHouse(6, 0), -2);
            Edges.due("ofHouse(0, 0) of none", new NightCats().ofHouse(0, 0), -2);
        });
    }

    private static void lawsAsked() {
        Edges.test(18, "takes now.", () -> {
            NightCats x = furnished();
            Edges.still("takes(0, 2)", DeedsEdges::furnished, y -> y.takes(0, 2), 5);
            Edges.due("takes(3, 0)", x.takes(3, 0), 2);
            x.by(-1);
            Edges.due("takes(3, 0)", x.takes(3, 0), 1);
            Edges.due("the last of six", crowded().takes(5, 5), 6);
        });
        Edges.test(18, "-100 for others.", () -> {
            int[][] rows = {{-1, 0}, {4, 0}, {0, -1}, {0, 3}, {6, 0}, {0, 6}, {LEAST, 0}, {MOST, 0}, {0, LEAST}, {0, MOST}, {-1, -1}};
            for (int[] row : rows) {
                Edges.still("takes(" + row[0] + ", " + row[1] + ")", DeedsEdges::furnished, x -> x.takes(row[0], row[1]), -100);
            }
            Edges.due("takes(6, 0) of six", crowded().takes(6, 0), -100);
            Edges.due("takes(0, 6) of six", crowded().takes(0, 6), -100);
            Edges.due("takes(0, 0) of none", new NightCats().takes(0, 0), -100);
        });
        Edges.test(19, "goes now.", () -> {
            Edges.still("goes(0)", DeedsEdges::furnished, x -> x.goes(0), -10);
            Edges.still("goes(3)", DeedsEdges::furnished, x -> x.goes(3), -20);
            Edges.due("the last of six, without a text", crowded().goes(5), 0);
        });
        Edges.test(19, "-100 for others.", () -> {
            int[] rows = {-1, 4, 6, LEAST, MOST};
            for (int cat : rows) {
                Edges.still("goes(" + cat + ")", DeedsEdges::furnished, x -> x.goes(cat), -100);
            }
            Edges.due("goes(6) of six", crowded().goes(6), -100);
            Edges.due("goes(0) of none", new NightCats().goes(0), -100);
        });
    }

    private static void state() {
        Edges.test(20, "0 HOUR, 1 X, 2 DREAM of all, 3 TAKEN of all.", () -> {
            NightCats x = furnished();
            int drawn = 397;
            for (int i = 0; i < 6; i++) {
                drawn = next(drawn);
            }
            int[] row = {2, drawn, 1014, 10};
            for (int what = 0; what < 4; what++) {
                Edges.due("is(" + what + ")", x.is(what), row[what]);
            }
            NightCats y = crowded();
            Edges.due("of six", y.is(2), 1497);
            Edges.due("of six", y.is(3), 3);
            int[] none = {0, 397, 0, 0};
            for (int what = 0; what < 4; what++) {
                Edges.due("is(" + what + ") of a new one", new NightCats().is(what), none[what]);
            }
        });
        Edges.test(20, "-2 for others.", () -> {
            for (int what : new int[] {-1, 4, 5, LEAST, MOST}) {
                Edges.still("is(" + what + ")", DeedsEdges::furnished, x -> x.is(what), -2);
            }
        });
    }

    private static void book() {
        Edges.test(21, "BOOK: how many (i NONE); the i-th, from the eldest on: 0 HOUR, 1 CAT, 2 HOUSE, 3 what (0 let in, 1 put out, 2 gone off).", () -> {
            NightCats x = furnished();
            Edges.due("how many", x.book(-1, 0), 3);
            int[][] rows = {{0, 0, 0, 0}, {2, 0, 0, 1}, {2, 0, 0, 0}};
            for (int i = 0; i < 3; i++) {
                for (int what = 0; what < 4; what++) {
                    Edges.due("book(" + i + ", " + what + ")", x.book(i, what), rows[i][what]);
                }
            }
            Edges.due("of a new one", new NightCats().book(-1, 0), 0);
            // the highest of each
            NightCats late = new NightCats();
            for (int i = 0; i < 6; i++) {
                late.house(5, 9);
                late.cat(5, 0);
            }
            for (int i = 0; i < 166; i++) {
                late.hour(60);
            }
            late.hour(38);
            for (int i = 0; i < 10 && late.of(5, 0) != 5; i++) {
                late.go(5, true);
            }
            late.let(5, 5);
            Edges.rule(late, "goes 1;");
            late.hour(1);
            int[][] last = {{9998, 5, 5, 0}, {9998, 5, 5, 2}};
            for (int i = 0; i < 2; i++) {
                for (int what = 0; what < 4; what++) {
                    Edges.due("book(" + i + ", " + what + ")", late.book(i, what), last[i][what]);
                }
            }
            for (int i = 0; i < 10 && late.of(5, 0) != 5; i++) {
                late.go(5, true);
            }
            late.let(5, 5);
            late.out(5);
            int[] end = {9999, 5, 5, 1};
            for (int what = 0; what < 4; what++) {
                Edges.due("book(3, " + what + ")", late.book(3, what), end[what]);
            }
        });
        Edges.test(21, "-2 if there is none such, and for others.", () -> {
            int[][] rows = {{3, 0}, {3, 3}, {24, 0}, {25, 0}, {-2, 0}, {LEAST, 0}, {MOST, 0}, {0, -1}, {0, 4}, {2, -1}, {2, 4}, {0, LEAST}, {0, MOST}};
            for (int[] row : rows) {
                Edges.still("book(" + row[0] + ", " + row[1] + ")", DeedsEdges::furnished, x -> x.book(row[0], row[1]), -2);
            }
            Edges.still("book(0, 0) of none", NightCats::new, x -> x.book(0, 0), -2);
        });
    }

    private static void image() {
        Edges.test(54, "THE IMAGE is as all is now: HOUR.", () -> {
            NightCats x = furnished();
            Edges.due("image", x.image(), 2);
            Edges.due("image at hour 0", new NightCats().image(), 0);
            Edges.due("image at 9999", late(0).image(), 9999);
            for (int way = 0; way < Looks.WAYS; way++) {
                NightCats plain = furnished();
                NightCats kept = furnished();
                kept.image();
                if (way < 3) {
                    Edges.due("nothing else is done", Looks.look(kept, way).equals(Looks.look(plain, way)), true);
                } else {
                    Edges.due("it is all as it was then", Looks.look(kept, way), "back() = 2\n" + Looks.look(plain, 0));
                }
            }
        });
        Edges.test(55, "AN IMAGE: all as it is, but the tape and the latest FAULT.", () -> {
            NightCats x = furnished();
            x.image();
            Due.read(x, "goes ;");
            Due.tape(x, "up 3;up 2");
            x.hour(1);
            x.back();
            Edges.due("the tape stays", x.about(9), 9);
            Edges.due("the latest FAULT stays", x.fault(0), 1);
            Edges.due("its place", x.fault(1), 5);
            Edges.due("the tape is read as it is", x.text(), -1);
            Edges.due("its fault", x.fault(1), 9);
            NightCats y = new NightCats();
            Due.read(y, "up 6;");
            y.back();
            Edges.due("the latest FAULT of one that is new again", y.fault(0), 2);
        });
    }

    private static void back() {
        Edges.test(55, "BACK to THE IMAGE (it stays): HOUR.", () -> {
            NightCats x = furnished();
            Edges.due("back", x.back(), 1);
            Edges.due("it stays", x.back(), 1);
            x.hour(60);
            Edges.due("it stays", x.back(), 1);
            Edges.due("hour", x.is(0), 1);
            Edges.due("of a new one", new NightCats().back(), 0);
        });
        Edges.test(55, "BACK: all is so again.", () -> {
            for (int way = 0; way < 4; way++) {
                NightCats x = furnished();
                x.image();
                for (int times = 0; times <= way / 2; times++) {
                    unlike(x);
                    x.back();
                }
                Due.read(x, "up 6;");
                Due.tape(x, "goes 4");
                Edges.due("as it was, way " + way, Looks.look(x, way % 2), Looks.look(furnished(), way % 2));
            }
        });
        Edges.test(55, "all is so again", () -> {
            NightCats x = new NightCats();
            Due.read(x, "takes 1;");
            x.image();
            for (int i = 2; i < 5; i++) {
                Edges.due("texts told since are gone each time", Due.read(x, "takes " + i + ";goes " + i + ";"), 1);
                x.by(1);
                x.back();
                Edges.due("texts", x.about(2), 1);
                Edges.due("none rules", x.about(3), -1);
                x.house(1, 9);
                x.cat(1, 7);
                x.by(0);
                Edges.due("the one kept is as it was", x.takes(0, 0), 1);
                x.back();
            }
        });
    }

    /** Whatever an image keeps is made another. */
    private static void unlike(NightCats x) {
        x.house(1, 1);
        x.cat(1, 1);
        Due.read(x, "takes 77;");
        x.by(1);
        x.seen(-1, 0);
        x.seen(9, 9);
        x.seen(8, 8);
        x.seen(7, 8);
        x.told(-1, 0);
        x.told(1, 77);
        x.piece(1, 1);
        x.said(-1, 0, 0);
        x.said(1, 1, 77);
        for (int i = 0; i < 20; i++) {
            x.out(0);
            x.let(0, 0);
        }
        x.hour(31);
        x.years(77, 40);
    }

    private static void about() {
        Edges.test(56, "0 HOUSES, 1 CATS, 2 TEXTS, 3 THE TEXT (NONE), 4 STEPS that can be taken back, 5 SIGHTS, 6 TOLD, 7 PIECES, 8 SAID, 9 bytes of the tape.", () -> {
            NightCats x = furnished();
            int[] row = {3, 4, 1, 0, 5, 2, 1, 2, 1, 6};
            for (int what = 0; what < 10; what++) {
                Edges.due("about(" + what + ")", x.about(what), row[what]);
            }
            x.by(-1);
            Edges.due("none rules", x.about(3), -1);
            // the most of each
            NightCats full = crowded();
            for (int i = 0; i < 12; i++) {
                full.seen(i, 1);
                full.told(0, i);
                full.piece(1, 1);
                full.said(0, 0, i);
                Due.read(full, "");
            }
            full.by(3);
            full.hour(60);
            for (int i = 0; i < 16; i++) {
                full.feed(0, 0, 0, 0, 0);
            }
            int[] most = {6, 6, 4, 3, 30, 10, 8, 5, 8, 300};
            for (int what = 0; what < 10; what++) {
                Edges.due("about(" + what + ")", full.about(what), most[what]);
            }
        });
        Edges.test(56, "-2 for others.", () -> {
            for (int what : new int[] {-1, 10, 11, LEAST, MOST}) {
                Edges.still("about(" + what + ")", DeedsEdges::furnished, x -> x.about(what), -2);
            }
        });
    }

    private static void refused() {
        Edges.test(10, "if there is none in it", () -> {
            Edges.still("none ever", DeedsEdges::furnished, x -> x.out(1), -1);
            Edges.still("none any more", () -> {
                NightCats x = furnished();
                x.out(0);
                return x;
            }, x -> x.out(0), -1);
        });
        Edges.test(9, "if it can't be", () -> {
            Edges.still("a door above", () -> at(3, 4), x -> Edges.one(x.let(0, 0)), 0);
            Edges.still("a door below", () -> at(3, 2), x -> Edges.one(x.let(0, 0)), 0);
            Edges.still("9 is not 0", () -> at(9, 0), x -> Edges.one(x.let(0, 0)), 0);
            Edges.due("there", at(9, 9).let(0, 0), true);
        });
        Edges.test(11, "if it can't be", () -> Edges.still("in a house", DeedsEdges::furnished, x -> Edges.one(x.go(0, true)), 0));
        Edges.test(15, "The latest STEP is taken back", () -> {
            NightCats x = furnished();
            x.undo();
            Edges.due("the latest let is back", x.of(0, 2), -1);
            Edges.due("the out isn't yet", x.book(-1, 0), 2);
            x.undo();
            Edges.due("the out is back", x.of(0, 2), 0);
        });
        Edges.test(21, "how many (i NONE)", () -> {
            for (int what : new int[] {0, 3, -1, 4, LEAST, MOST}) {
                Edges.still("book(-1, " + what + ")", DeedsEdges::furnished, x -> x.book(-1, what), 3);
            }
        });
        Edges.test(21, "-2 if there is none such", () -> {
            NightCats x = furnished();
            for (int i = 0; i < 12; i++) {
                x.out(0);
                x.let(0, 0);
            }
            for (int what = 0; what < 4; what++) {
                Edges.due("book(25, " + what + ") of 25", x.book(25, what), -2);
                Edges.due("book(24, " + what + ") of 25", x.book(24, what) == -2, false);
            }
        });
        Edges.test(55, "(it stays)", () -> {
            NightCats x = furnished();
            for (int i = 0; i < 5; i++) {
                x.hour(1 + i);
                Edges.due("back", x.back(), 1);
            }
        });
    }

    /** A house at a door, a cat at a place. */
    private static NightCats at(int door, int place) {
        NightCats x = new NightCats();
        x.house(door, 9);
        x.cat(place, 1);
        return x;
    }

    private static void drawsThatCant() {
        Edges.test(14, "(each if it can be)", () -> {
            // 397: cat 66 to house 0: not at its door; 399: cat 0 up, in a house
            NightCats x = at(4, 3);
            x.years(0, 1);
            Edges.due("not at the door", x.of(0, 2), -1);
            Edges.due("nothing is written down", x.book(-1, 0), 0);
            NightCats y = at(3, 3);
            y.let(0, 0);
            y.years(1, 1);
            Edges.due("in a house it isn't gone", y.of(0, 0), 3);
            y.years(0, 1);
            Edges.due("one in a house isn't let in", y.ofHouse(0, 3), 1);
            Edges.due("nothing more is written down", y.book(-1, 0), 1);
            Edges.due("two steps", y.about(4), 3);
        });
        Edges.test(14, "4, 5 an HOUR (if it can pass)", () -> {
            for (int seed = 0; seed < 12; seed++) {
                NightCats x = late(1);
                int first = seed * 2 + 397;
                int due = 9998;
                for (int i = 0; i < 9; i++) {
                    due += due < 9999 && first % 6 >= 4 ? 1 : 0;
                    first = next(first);
                }
                x.out(0);
                Edges.due("years(" + seed + ", 9)", x.years(seed, 9), due);
            }
        });
        Edges.test(14, "x mod 6", () -> {
            // 401: 5; 397: 1; 399: 3: an hour, a cat let in, a cat gone
            NightCats x = at(4, 4);
            Edges.due("5", x.years(2, 1), 1);
            NightCats y = at(4, 4);
            y.years(0, 1);
            Edges.due("1", y.of(0, 2), 0);
            NightCats z = at(4, 4);
            z.years(1, 1);
            Edges.due("3", z.of(0, 0), 5);
        });
    }
}
