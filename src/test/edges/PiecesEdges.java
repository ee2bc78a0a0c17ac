/** Part IV from the pieces on, promises 37 to 53. */
final class PiecesEdges {
    private static final int LEAST = Integer.MIN_VALUE;
    private static final int MOST = Integer.MAX_VALUE;
    private static final String PIECES = "PIECES of a dream (5 at most; told: how wide, 1 .. 4, bits, the highest first): JOINED are all in some order, the last bit of each like the "
            + "first one of the next: in how many orders (0: no way; without PIECES 1); the lowest: the i-th PIECE (no way: none); THE DREAM: its bits, those joined once "
            + "(the first highest; without PIECES 0).";
    private static final String GAME = "A GAME of two heaps: by turns one takes 1 or 2 of one heap, or the same 1 or 2 of both; who takes the last wins: whether the one who begins wins "
            + "(with both empty: not); A PLAY by which it wins: the fewest of the first, then of the second heap.";

    private PiecesEdges() {
    }

    static void all() {
        pieces();
        joins();
        joined();
        dream();
        price();
        chances();
        game();
        play();
        said();
        whose();
        nearest();
        at();
        gap();
        share();
        coldest();
        dreamless();
        free();
        ledger();
        piecesOfThemselves();
        smaller();
    }

    private static NightCats furnished() {
        return DeedsEdges.furnished();
    }

    private static NightCats pieces(String all) {
        NightCats x = new NightCats();
        if (!all.isEmpty()) {
            for (String p : all.split(" ")) {
                x.piece(p.length(), Integer.parseInt(p, 2));
            }
        }
        return x;
    }

    private static void pieces() {
        Edges.test(37, "A PIECE: its number.", () -> {
            int[][] rows = {{1, 0}, {1, 1}, {2, 0}, {2, 3}, {3, 0}, {3, 7}, {4, 0}, {4, 15}};
            for (int[] row : rows) {
                Edges.due("piece(" + row[0] + ", " + row[1] + ")", new NightCats().piece(row[0], row[1]), 0);
            }
            NightCats x = new NightCats();
            for (int i = 0; i < 5; i++) {
                Edges.due("piece", x.piece(4, i), i);
                Edges.due("pieces", x.about(7), i + 1);
            }
        });
        Edges.test(37, "NONE for others (1 .. 4; bits), or if there are 5.", () -> {
            int[][] rows = {{0, 0}, {5, 0}, {-1, 0}, {1, -1}, {1, 2}, {2, 4}, {3, 8}, {4, 16}, {2, -1}, {4, -1}, {LEAST, 0}, {MOST, 0}, {1, LEAST}, {4, MOST}, {32, 0}, {33, 1},
                {31, 1}, {64, 0}};
            for (int[] row : rows) {
                Edges.still("piece(" + row[0] + ", " + row[1] + ")", PiecesEdges::furnished, x -> x.piece(row[0], row[1]), -1);
            }
        });
        Edges.test(37, "or if there are 5", () -> {
            Edges.still("the sixth", () -> pieces("1 11 01 0101 111"), x -> x.piece(1, 1), -1);
            Edges.still("the sixth, of others", () -> pieces("1 11 01 0101 111"), x -> x.piece(5, 1), -1);
        });
    }

    private static void joined(String all, int ways, String order, long dream) {
        NightCats x = pieces(all);
        Edges.due("ways of " + all, x.joins(-1), ways);
        for (int i = 0; i < order.length(); i++) {
            Edges.due("joins(" + i + ") of " + all, x.joins(i), order.charAt(i) - '0');
        }
        Edges.due("dream of " + all, x.dream(), dream);
    }

    private static void joins() {
        Edges.test(38, PIECES, () -> {
            joined("", 1, "", 0);
            joined("0", 1, "0", 0);
            joined("1", 1, "0", 1);
            joined("1011", 1, "0", 11);
            joined("0 0", 2, "01", 0);
            joined("1 0", 0, "", -1);
            joined("10 01", 2, "01", 0b101);
            joined("01 10", 2, "01", 0b010);
            joined("10 11", 1, "10", 0b110);
            joined("0 11 01", 1, "021", 0b011);
            joined("11 0 01", 1, "120", 0b011);
            joined("1111 1111 1111 1111 1111", 120, "01234", 0xffff);
            joined("0000 0000 0000 0000 0000", 120, "01234", 0);
            joined("1 1 1 1 1", 120, "01234", 1);
            joined("10 10", 0, "", -1);
        });
        Edges.test(38, "JOINS: in how many ways (i NONE), the i-th PIECE of the lowest.", () -> {
            // 0, 1, 2; 1, 2, 0; 2, 0, 1
            joined("10 01 11", 3, "012", 0b1011);
            joined("10 01 11 1", 8, "0123", 0b1011);
            joined("100 0010 001", 3, "012", 0b10001001);
            joined("11 1010 01", 3, "012", 0b110101);
            joined("100 110", 0, "", -1);
            // 0, 2, 4 in any order with 1, 3 in any order between them
            joined("1000 0101 1110 0011 1010", 12, "01234", 0b1000101110011010);
        });
    }

    private static void joined() {
        Edges.test(38, "-2: none, there is none such, and for others.", () -> {
            for (int i : new int[] {-2, 2, 3, 5, LEAST, MOST}) {
                Edges.still("joins(" + i + ") of two", PiecesEdges::furnished, x -> x.joins(i), -2);
            }
            Edges.due("without PIECES there is none such", pieces("").joins(0), -2);
            for (int i = -2; i < 3; i++) {
                Edges.due("no way: joins(" + i + ")", pieces("1 0").joins(i), i == -1 ? 0 : -2);
            }
            Edges.due("the last of five", pieces("1 1 1 1 1").joins(4), 4);
            Edges.due("behind five", pieces("1 1 1 1 1").joins(5), -2);
        });
        Edges.test(38, "(0: no way; without PIECES 1)", () -> {
            Edges.still("without", NightCats::new, x -> x.joins(-1), 1);
            Edges.still("no way", () -> pieces("10 10"), x -> x.joins(-1), 0);
            NightCats x = pieces("10 10");
            Edges.due("no way", x.joins(0), -2);
            x.piece(2, 1);
            Edges.due("a way between them", x.joins(-1), 2);
            Edges.due("its second", x.joins(1), 2);
        });
    }

    private static void dream() {
        Edges.test(39, "THE DREAM (bits).", () -> {
            joined("", 1, "", 0);
            joined("0001", 1, "0", 1);
            joined("1000", 1, "0", 8);
            joined("101 10 0", 1, "012", 0b1010);
            joined("1000 0001", 2, "01", 0b1000001);
            joined("0001 1000", 2, "01", 0b0001000);
            joined("1 1000", 1, "01", 0b1000);
            joined("1000 0", 1, "01", 0b1000);
        });
        Edges.test(39, "NONE: none.", () -> {
            Edges.still("no way", () -> pieces("10 10"), NightCats::dream, -1);
            Edges.due("of one and none", pieces("1 0").dream(), -1);
            Edges.still("without PIECES it is 0", NightCats::new, NightCats::dream, 0);
        });
    }

    private static void price() {
        Edges.test(40, "A PRICE: with none left 0; with n: 540 and twice the PRICE with one fewer, together by 3 (cut), less 60; 0 at least", () -> {
            int worth = 0;
            for (int n = 0; n <= 12; n++) {
                Edges.due("price(" + n + ")", new NightCats().price(n), worth);
                worth = (540 + 2 * worth) / 3 - 60;
            }
            Edges.due("with none left", new NightCats().price(0), 0);
            Edges.due("cut: 253 and a third", new NightCats().price(3), 253);
            Edges.due("the last", new NightCats().price(12), 356);
        });
        Edges.test(40, "A PRICE: how much a question is worth, n being left. NONE for others (0 .. 12).", () -> {
            for (int n : new int[] {-1, 13, LEAST, MOST}) {
                Edges.still("price(" + n + ")", PiecesEdges::furnished, x -> x.price(n), -1);
            }
        });
    }

    private static void chances() {
        Edges.test(41, "CHANCES: of n nights each is cold by 1 of 3: that k are, in lowest terms.", () -> {
            NightCats x = new NightCats();
            for (int n = 0; n <= 8; n++) {
                for (int k = 0; k <= n; k++) {
                    // each way of n nights by itself, a warm one twice
                    long upper = 0;
                    long lower = 1;
                    for (int way = 0; way < 1 << n; way++) {
                        upper += Integer.bitCount(way) == k ? 1L << n - k : 0;
                    }
                    for (int i = 0; i < n; i++) {
                        lower *= 3;
                    }
                    while (upper % 3 == 0 && lower % 3 == 0) {
                        upper /= 3;
                        lower /= 3;
                    }
                    Edges.due("upper " + n + " " + k, x.chances(n, k, false), upper);
                    Edges.due("lower " + n + " " + k, x.chances(n, k, true), lower);
                }
            }
        });
        Edges.test(41, "CHANCES: the upper (low false), the lower one (low true). NONE for others (n 0 .. 8; k 0 .. n).", () -> {
            int[][] rows = {{-1, 0}, {9, 0}, {9, 9}, {0, -1}, {0, 1}, {8, -1}, {8, 9}, {4, 5}, {-1, -1}, {LEAST, 0}, {MOST, 0}, {8, LEAST}, {8, MOST}};
            for (int[] row : rows) {
                Edges.still("chances(" + row[0] + ", " + row[1] + ", false)", PiecesEdges::furnished, x -> x.chances(row[0], row[1], false), -1);
                Edges.still("chances(" + row[0] + ", " + row[1] + ", true)", PiecesEdges::furnished, x -> x.chances(row[0], row[1], true), -1);
            }
            Edges.due("no night", new NightCats().chances(0, 0, true), 1);
            Edges.due("8 of 8", new NightCats().chances(8, 8, true), 6561);
        });
    }

    /** Whether the one who begins wins, by every move and all behind it. */
    private static boolean[][] wins() {
        boolean[][] wins = new boolean[13][13];
        for (int a = 0; a <= 12; a++) {
            for (int b = 0; b <= 12; b++) {
                for (int n = 1; n <= 2; n++) {
                    wins[a][b] |= a >= n && !wins[a - n][b] || b >= n && !wins[a][b - n] || a >= n && b >= n && !wins[a - n][b - n];
                }
            }
        }
        return wins;
    }

    private static void game() {
        Edges.test(42, GAME, () -> {
            boolean[][] wins = wins();
            NightCats x = new NightCats();
            for (int a = 0; a <= 12; a++) {
                for (int b = 0; b <= 12; b++) {
                    Edges.due("game(" + a + ", " + b + ")", x.game(a, b), wins[a][b] ? 1 : 0);
                }
            }
        });
        Edges.test(42, "(with both empty: not)", () -> Edges.due("game(0, 0)", new NightCats().game(0, 0), 0));
        Edges.test(42, "A GAME: 1 the one who begins wins, 0 the other one. NONE for others (0 .. 12).", () -> {
            int[][] rows = {{-1, 0}, {0, -1}, {13, 0}, {0, 13}, {13, 13}, {-1, -1}, {-1, 1}, {LEAST, 0}, {MOST, 0}, {0, LEAST}, {0, MOST}, {MOST, MOST}};
            for (int[] row : rows) {
                Edges.still("game(" + row[0] + ", " + row[1] + ")", PiecesEdges::furnished, x -> x.game(row[0], row[1]), -1);
            }
        });
    }

    private static void play() {
        Edges.test(43, "A PLAY by which it wins: the fewest of the first, then of the second heap", () -> {
            boolean[][] wins = wins();
            int[] plays = {1, 2, 10, 11, 20, 22};
            NightCats x = new NightCats();
            for (int a = 0; a <= 12; a++) {
                for (int b = 0; b <= 12; b++) {
                    int due = -1;
                    for (int i = 5; i >= 0; i--) {
                        int first = plays[i] / 10;
                        int second = plays[i] % 10;
                        due = first <= a && second <= b && !wins[a - first][b - second] ? plays[i] : due;
                    }
                    Edges.due("play(" + a + ", " + b + ")", x.play(a, b), due);
                }
            }
        });
        Edges.test(43, "A PLAY: 10 times how much of the first, and how much of the second.", () -> {
            NightCats x = new NightCats();
            int[][] rows = {{0, 1, 1}, {0, 2, 2}, {1, 0, 10}, {2, 0, 20}, {1, 1, 11}, {2, 2, 1}, {12, 11, 2}, {11, 12, 2}, {12, 10, 1}};
            for (int[] row : rows) {
                Edges.due("play(" + row[0] + ", " + row[1] + ")", x.play(row[0], row[1]), row[2]);
            }
        });
        Edges.test(43, "NONE: none wins, and for others (0 .. 12).", () -> {
            int[][] rows = {{0, 0}, {3, 0}, {0, 3}, {1, 2}, {12, 12}, {-1, 0}, {0, -1}, {13, 0}, {0, 13}, {13, 1}, {1, 13}, {-1, 2}, {2, -1}, {LEAST, 1}, {MOST, 0}, {1, LEAST},
                {0, MOST}};
            for (int[] row : rows) {
                Edges.still("play(" + row[0] + ", " + row[1] + ")", PiecesEdges::furnished, x -> x.play(row[0], row[1]), -1);
            }
        });
    }

    private static NightCats eightSaid() {
        NightCats x = furnished();
        x.said(-1, 0, 0);
        for (int i = 0; i < 8; i++) {
            x.said(i % 4, i % 3, i);
        }
        return x;
    }

    private static void said() {
        Edges.test(44, "SAID: how many there are (cat NONE: none any more).", () -> {
            NightCats x = furnished();
            Edges.due("said(0, 0, 0)", x.said(0, 0, 0), 2);
            Edges.due("said(3, 2, 99)", x.said(3, 2, 99), 3);
            int[][] rows = {{0, 0}, {-1, -1}, {6, 100}, {LEAST, LEAST}, {MOST, MOST}};
            for (int[] row : rows) {
                x.said(0, 0, 1);
                Edges.due("said(-1, " + row[0] + ", " + row[1] + ")", x.said(-1, row[0], row[1]), 0);
                Edges.due("about(8)", x.about(8), 0);
            }
            Edges.due("none of a new one", new NightCats().said(-1, 0, 0), 0);
            Edges.due("from 1 on again", x.said(1, 1, 1), 1);
        });
        Edges.test(44, "-2 for others (0 .. 99), or if there are 8.", () -> {
            int[][] rows = {{-2, 0, 0}, {4, 0, 0}, {6, 0, 0}, {0, -1, 0}, {0, 3, 0}, {0, 0, -1}, {0, 0, 100}, {LEAST, 0, 0}, {MOST, 0, 0}, {0, LEAST, 0}, {0, MOST, 0},
                {0, 0, LEAST}, {0, 0, MOST}};
            for (int[] row : rows) {
                Edges.still("said(" + row[0] + ", " + row[1] + ", " + row[2] + ")", PiecesEdges::furnished, x -> x.said(row[0], row[1], row[2]), -2);
            }
            Edges.due("of none", new NightCats().said(0, 0, 0), -2);
            Edges.due("cat 6 of six", DeedsEdges.crowded().said(6, 0, 0), -2);
            Edges.due("house 6 of six", DeedsEdges.crowded().said(0, 6, 0), -2);
            Edges.due("the last of six", DeedsEdges.crowded().said(5, 5, 0), 1);
        });
        Edges.test(44, "or if there are 8", () -> {
            Edges.due("eight", eightSaid().about(8), 8);
            Edges.still("the ninth", PiecesEdges::eightSaid, x -> x.said(0, 0, 1), -2);
            Edges.still("the ninth, of others", PiecesEdges::eightSaid, x -> x.said(0, 0, 100), -2);
            NightCats x = eightSaid();
            x.said(-1, 0, 0);
            for (int i = 1; i <= 8; i++) {
                Edges.due("again", x.said(1, 1, 1), i);
            }
            Edges.due("the ninth", x.said(1, 1, 1), -2);
        });
    }

    private static void whose() {
        Edges.test(45, "WHOSE LAW (told: SAID, 8 at most: a CAT, a HOUSE, takes 0 .. 99): TEXTS (bits) by whose takes (a TEXT without it: by what is so without) all are so (as now).", () -> {
            NightCats x = new NightCats();
            x.house(3, 40);
            x.cat(3, 4);
            x.cat(3, 6);
            Edges.due("no TEXT", x.whose(), 0);
            Due.read(x, "goes 4;");
            Edges.due("nothing SAID: all", x.whose(), 1);
            Due.read(x, "takes 4;");
            Due.read(x, "takes dream/10;");
            Due.read(x, "takes cold;");
            Edges.due("nothing SAID: all of four", x.whose(), 15);
            x.said(0, 0, 4);
            Edges.due("4 by all, by what is so without too", x.whose(), 15);
            x.said(1, 0, 6);
            Edges.due("COLD, too", x.whose(), 9);
            x.said(-1, 0, 0);
            x.said(0, 0, 4);
            x.let(1, 0);
            x.hour(1);
            Edges.due("as now: 3 by the dream of 34", x.whose(), 11);
            x.by(2);
            Edges.due("whichever rules", x.whose(), 11);
            x.said(1, 0, 99);
            Edges.due("none by all", x.whose(), 0);
        });
        Edges.test(45, "WHOSE LAW (bits).", () -> {
            NightCats x = furnished();
            Due.read(x, "takes 99+who;");
            x.said(-1, 0, 0);
            x.said(3, 0, 99);
            Edges.due("99 at most", x.whose(), 2);
            x.said(-1, 0, 0);
            Due.read(x, "takes -1-who;");
            x.said(3, 0, 0);
            Edges.due("0 at least", x.whose(), 4);
            NightCats eight = furnished();
            eight.said(-1, 0, 0);
            for (int i = 0; i < 7; i++) {
                eight.said(0, 0, 5);
            }
            eight.said(1, 0, 5);
            Edges.due("but for the eighth", eight.whose(), 0);
        });
    }

    private static void nearest() {
        Edges.test(46, "NEAREST: of HOUSES with no CAT in them that one whose door is the fewest PLACES (FAR) from a CAT (in a HOUSE or without); of like ones the lowest; none.", () -> {
            NightCats x = QuestionsEdges.stand("2847", "55");
            Edges.due("4 is one away", x.nearest(0), 2);
            x.go(1, false);
            x.let(1, 2);
            Edges.due("one is in it: 7 is two away", x.nearest(0), 3);
            Edges.due("from one in a HOUSE, not its own", x.nearest(1), 0);
            Edges.due("across 9 and 0", QuestionsEdges.stand("59", "0").nearest(0), 1);
            Edges.due("of like ones the lowest", QuestionsEdges.stand("91", "0").nearest(0), 0);
            Edges.due("of like ones the lowest", QuestionsEdges.stand("19", "0").nearest(0), 0);
            Edges.due("five away", QuestionsEdges.stand("5", "0").nearest(0), 0);
            Edges.due("the last of six", QuestionsEdges.stand("555550", "0").nearest(0), 5);
        });
        Edges.test(46, "NEAREST. NONE: none, and for others.", () -> {
            for (int cat : new int[] {-1, 4, 6, LEAST, MOST}) {
                Edges.still("nearest(" + cat + ")", PiecesEdges::furnished, x -> x.nearest(cat), -1);
            }
            Edges.due("of none", new NightCats().nearest(0), -1);
            Edges.due("no HOUSE", QuestionsEdges.stand("", "0").nearest(0), -1);
            NightCats x = QuestionsEdges.stand("0", "05");
            x.let(0, 0);
            Edges.due("none without one in it", x.nearest(1), -1);
            Edges.due("nor for the one in it", x.nearest(0), -1);
            Edges.due("cat 6 of six", DeedsEdges.crowded().nearest(6), -1);
            Edges.due("cat 5 of six", QuestionsEdges.stand("0", "000000").nearest(5), 0);
        });
    }

    private static void at() {
        Edges.test(47, "AT a PLACE: CATS (bits) without that are there.", () -> {
            NightCats x = QuestionsEdges.stand("3", "330935");
            int[] due = {4, 0, 0, 19, 0, 32, 0, 0, 0, 8};
            for (int place = 0; place < 10; place++) {
                Edges.due("at(" + place + ")", x.at(place), due[place]);
            }
            x.let(1, 0);
            Edges.due("one in a house isn't without", x.at(3), 17);
            Edges.due("all six", QuestionsEdges.stand("", "999999").at(9), 63);
            Edges.due("of none", new NightCats().at(0), 0);
        });
        Edges.test(47, "AT a PLACE: CATS (bits). NONE for others.", () -> {
            for (int place : new int[] {-1, 10, LEAST, MOST}) {
                Edges.still("at(" + place + ")", PiecesEdges::furnished, x -> x.at(place), -1);
            }
        });
    }

    private static void gap() {
        Edges.test(48, "THE GAP: the most PLACES one beside the other around at which no CAT is without (all: 10).", () -> {
            String[][] rows = {{"0", "9"}, {"4", "9"}, {"9", "9"}, {"05", "4"}, {"37", "5"}, {"09", "8"}, {"45", "8"}, {"147", "3"}, {"024689", "1"}, {"012345", "4"},
                {"456789", "4"}, {"234567", "4"}, {"888888", "9"}, {"19", "7"}};
            for (String[] row : rows) {
                Edges.due("cats at " + row[0], QuestionsEdges.stand("", row[0]).gap(), Integer.parseInt(row[1]));
            }
        });
        Edges.test(48, "THE GAP.", () -> Edges.still("no cat", NightCats::new, NightCats::gap, 10));
        Edges.test(48, "(all: 10)", () -> {
            NightCats x = QuestionsEdges.stand("4", "4");
            x.let(0, 0);
            Edges.due("none without", x.gap(), 10);
            x.out(0);
            Edges.due("one without", x.gap(), 9);
        });
    }

    private static void share(String name, NightCats x, int cat, int upper, int lower) {
        Edges.due(name + ", upper of " + cat, x.share(cat, false), upper);
        Edges.due(name + ", lower of " + cat, x.share(cat, true), lower);
    }

    private static void share() {
        Edges.test(49, "A SHARE: TAKEN of a CAT of that of all CATS, in lowest terms (nothing TAKEN: 0 by 1).", () -> {
            NightCats x = new NightCats();
            x.house(3, 60);
            x.house(4, 60);
            x.cat(3, 6);
            x.cat(4, 4);
            x.cat(5, 9);
            share("nothing TAKEN", x, 0, 0, 1);
            share("nothing TAKEN", x, 2, 0, 1);
            x.let(0, 0);
            x.let(1, 1);
            x.hour(1);
            share("6 and 4", x, 0, 3, 5);
            share("6 and 4", x, 1, 2, 5);
            share("none of it", x, 2, 0, 1);
            x.out(1);
            x.hour(1);
            share("12 and 4", x, 0, 3, 4);
            share("12 and 4", x, 1, 1, 4);
            x.hour(1);
            share("18 and 4", x, 0, 9, 11);
            share("18 and 4", x, 1, 2, 11);
            NightCats one = new NightCats();
            one.house(3, 60);
            one.cat(3, 6);
            one.cat(3, 6);
            one.let(0, 0);
            one.hour(1);
            share("all of it", one, 0, 1, 1);
            share("none of it", one, 1, 0, 1);
            // the most that can be taken, by one and by all
            NightCats all = new NightCats();
            for (int i = 0; i < 6; i++) {
                all.house(0, 999 - i);
                all.cat(0, 9);
                all.let(i, i);
            }
            Edges.rule(all, "takes 99;");
            all.hour(11);
            share("999 of 5979", all, 0, 333, 1993);
            share("994 of 5979", all, 5, 994, 5979);
        });
        Edges.test(49, "A SHARE: the upper (low false), the lower one (low true). NONE for others.", () -> {
            for (int cat : new int[] {-1, 4, 6, LEAST, MOST}) {
                Edges.still("share(" + cat + ", false)", PiecesEdges::furnished, x -> x.share(cat, false), -1);
                Edges.still("share(" + cat + ", true)", PiecesEdges::furnished, x -> x.share(cat, true), -1);
            }
            share("of none", new NightCats(), 0, -1, -1);
            share("cat 6 of six", DeedsEdges.crowded(), 6, -1, -1);
            share("cat 2 of six", DeedsEdges.crowded(), 2, 1, 1);
            share("cat 5 of six", DeedsEdges.crowded(), 5, 0, 1);
        });
    }

    private static void coldest() {
        Edges.test(50, "COLDEST: the CAT of most COLD; of like ones the lowest; none.", () -> {
            NightCats x = new NightCats();
            int[] cold = {0, 0, 5, 4, 5, 9};
            int[] due = {0, 0, 2, 2, 2, 5};
            for (int i = 0; i < 6; i++) {
                x.cat(0, cold[i]);
                Edges.due("coldest of " + (i + 1), x.coldest(), due[i]);
            }
            x.house(0, 1);
            x.let(5, 0);
            Edges.due("in a house", x.coldest(), 5);
        });
        Edges.test(50, "COLDEST. NONE: none.", () -> Edges.still("no cat", NightCats::new, NightCats::coldest, -1));
    }

    private static void dreamless() {
        Edges.test(51, "DREAMLESS (bits).", () -> Edges.still("no house", NightCats::new, NightCats::dreamless, 0));
        Edges.test(51, "DREAMLESS: HOUSES (bits) of DREAM 0.", () -> {
            NightCats x = new NightCats();
            int[] dreams = {0, 1, 999, 0, 5, 0};
            int[] due = {1, 1, 1, 9, 9, 41};
            for (int i = 0; i < 6; i++) {
                x.house(3, dreams[i]);
                Edges.due("dreamless of " + (i + 1), x.dreamless(), due[i]);
            }
            x.cat(3, 2);
            x.let(0, 4);
            x.hour(2);
            Edges.due("1 is left", x.dreamless(), 41);
            x.hour(1);
            Edges.due("none is left", x.dreamless(), 57);
            x.undo();
            Edges.due("taken back", x.dreamless(), 41);
        });
    }

    private static void free() {
        Edges.test(52, "FREE: HOUSES (bits).", () -> Edges.still("no house", NightCats::new, NightCats::free, 0));
        Edges.test(52, "FREE: HOUSES (bits) with no CAT in them.", () -> {
            NightCats x = new NightCats();
            for (int i = 0; i < 6; i++) {
                x.house(3, 0);
                x.cat(3, 1);
                Edges.due("free of " + (i + 1), x.free(), (2 << i) - 1);
            }
            for (int i = 0; i < 6; i++) {
                x.let(i, 5 - i);
                Edges.due("free but for " + (i + 1), x.free(), (1 << 5 - i) - 1);
            }
            x.out(0);
            Edges.due("the first", x.free(), 1);
            x.out(5);
            Edges.due("and the last", x.free(), 33);
        });
    }

    private static void ledger() {
        Edges.test(53, "BY THE BOOK: how often a CAT is written down (NONE: all).", () -> {
            NightCats x = QuestionsEdges.stand("34", "34");
            Edges.due("nothing yet", x.ledger(-1), 0);
            Edges.due("nothing yet", x.ledger(0), 0);
            x.let(0, 0);
            x.let(1, 1);
            x.out(1);
            Edges.due("all", x.ledger(-1), 3);
            Edges.due("of 0", x.ledger(0), 1);
            Edges.due("of 1", x.ledger(1), 2);
            for (int i = 0; i < 11; i++) {
                x.let(1, 1);
                x.out(1);
            }
            Edges.due("25", x.ledger(-1), 25);
            Edges.due("of 0, the eldest", x.ledger(0), 1);
            Edges.due("of 1", x.ledger(1), 24);
            x.let(1, 1);
            Edges.due("25 at most", x.ledger(-1), 25);
            Edges.due("of 0, no more", x.ledger(0), 0);
            Edges.due("of 1", x.ledger(1), 25);
        });
        Edges.test(53, "BY THE BOOK. -2 for others.", () -> {
            for (int cat : new int[] {-2, 4, 6, LEAST, MOST}) {
                Edges.still("ledger(" + cat + ")", PiecesEdges::furnished, x -> x.ledger(cat), -2);
            }
            Edges.due("cat 0 of none", new NightCats().ledger(0), -2);
            Edges.due("cat 6 of six", DeedsEdges.crowded().ledger(6), -2);
            Edges.due("cat 5 of six", DeedsEdges.crowded().ledger(5), 0);
            Edges.due("all of none", new NightCats().ledger(-1), 0);
        });
    }

    private static void piecesOfThemselves() {
        Edges.test(39, "(the first highest; without PIECES 0)", () -> {
            Edges.still("without PIECES", NightCats::new, NightCats::dream, 0);
            joined("1000", 1, "0", 8);
            joined("1000 0100", 1, "01", 0b1000100);
            // five of four bits, joined four times: sixteen
            joined("1000 0000 0000 0000 0001", 30, "01234", 0x8001);
            joined("1111 1111 1111 1111 1110", 24, "01234", 0xfffe);
        });
        Edges.test(38, "(no way: none)", () -> {
            NightCats x = pieces("10 10 10 10 10");
            Edges.due("ways", x.joins(-1), 0);
            for (int i = 0; i < 5; i++) {
                Edges.due("joins(" + i + ")", x.joins(i), -2);
            }
            Edges.due("dream", x.dream(), -1);
        });
        Edges.test(37, "(1 .. 4; bits)", () -> {
            for (int width = -1; width <= 6; width++) {
                for (int bits = -1; bits <= 33; bits++) {
                    boolean fits = width >= 1 && width <= 4 && bits >= 0 && bits < 1 << width;
                    Edges.due("piece(" + width + ", " + bits + ")", new NightCats().piece(width, bits), fits ? 0 : -1);
                }
            }
        });
        Edges.test(40, "with none left 0", () -> Edges.still("price(0)", NightCats::new, x -> x.price(0), 0));
        Edges.test(40, "together by 3 (cut), less 60", () -> {
            // 500 and 780 and 940 and 1046 by 3
            int[] due = {120, 200, 253, 288};
            for (int n = 1; n <= 4; n++) {
                Edges.due("price(" + n + ")", new NightCats().price(n), due[n - 1]);
            }
        });
        Edges.test(41, "n 0 .. 8; k 0 .. n", () -> {
            for (int n = -1; n <= 9; n++) {
                for (int k = -1; k <= 10; k++) {
                    boolean fits = n >= 0 && n <= 8 && k >= 0 && k <= n;
                    Edges.due("chances(" + n + ", " + k + ")", new NightCats().chances(n, k, true) > 0, fits);
                }
            }
        });
        Edges.test(43, "none wins", () -> {
            Edges.still("play(0, 0)", NightCats::new, x -> x.play(0, 0), -1);
            Edges.still("play(1, 2)", NightCats::new, x -> x.play(1, 2), -1);
            Edges.still("play(12, 12)", NightCats::new, x -> x.play(12, 12), -1);
        });
        Edges.test(44, "(cat NONE: none any more)", () -> {
            NightCats x = eightSaid();
            x.said(-1, 50, 500);
            Edges.due("said", x.about(8), 0);
            Edges.due("all texts", x.whose(), 1);
        });
    }

    private static void smaller() {
        Edges.test(45, "(a TEXT without it: by what is so without)", () -> {
            NightCats x = new NightCats();
            x.house(3, 40);
            x.cat(3, 4);
            Due.read(x, "");
            Due.read(x, "goes 9;");
            Due.read(x, "takes 5;");
            x.said(0, 0, 4);
            Edges.due("by COLD", x.whose(), 3);
            x.by(2);
            Edges.due("whichever rules", x.whose(), 3);
        });
        Edges.test(46, "of like ones the lowest; none", () -> {
            NightCats x = QuestionsEdges.stand("4646", "5555");
            x.go(0, false);
            Edges.due("the lowest", x.nearest(1), 0);
            x.let(0, 0);
            Edges.due("the next", x.nearest(1), 1);
            x.go(1, true);
            x.let(1, 1);
            Edges.due("the third", x.nearest(2), 2);
            x.go(2, false);
            x.let(2, 2);
            x.go(3, true);
            Edges.due("the last", x.nearest(3), 3);
            x.let(3, 3);
            Edges.due("none", x.nearest(3), -1);
        });
        Edges.test(49, "(nothing TAKEN: 0 by 1)", () -> {
            NightCats x = DeedsEdges.furnished();
            for (int i = 0; i < 5; i++) {
                x.undo();
            }
            for (int cat = 0; cat < 4; cat++) {
                share("nothing TAKEN any more", x, cat, 0, 1);
            }
        });
        Edges.test(50, "of like ones the lowest; none", () -> {
            NightCats x = new NightCats();
            Edges.due("none", x.coldest(), -1);
            x.cat(0, 9);
            x.cat(0, 9);
            Edges.due("the lowest", x.coldest(), 0);
        });
        Edges.test(53, "(NONE: all)", () -> Edges.still("ledger(-1)", PiecesEdges::furnished, x -> x.ledger(-1), 3));
    }
}
