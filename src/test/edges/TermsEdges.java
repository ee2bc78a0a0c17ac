import java.util.function.Consumer;

/** The Terms: places, houses, cats, hours, the book, steps. */
final class TermsEdges {
    private static final String HOUSES = "HOUSES 0 .. 5 (told one by one): a door at a PLACE, DREAM 0 .. 999, a CAT in it or none (at first none), "
            + "how many came 0 .. 999 (at first 0; no more).";
    private static final String CATS = "CATS 0 .. 5 (told one by one): a PLACE, COLD 0 .. 9, in a HOUSE or without (at first without), TAKEN 0 .. 9999 "
            + "(at first 0; no more).";
    private static final String LET_IN = "LET IN: a CAT without, at the PLACE of the door of a HOUSE with no CAT in it, is in it; one more came.";
    private static final String GONE = "GONE: a CAT without is in the PLACE above (9: 0) or below (0: 9).";
    private static final String TAKES = "one in a HOUSE takes: DREAM of it is less by takes (as it is then; by what it has, if that is less), TAKEN more "
            + "(9999 at most, DREAM is less all the same)";
    private static final String GOES = "does goes say more than 0 then, it goes off: without, at the door (and draws nothing in that HOUR).";
    private static final String DRAW = "One without: a draw by 3 (X mod 3, X becoming (X * 647 + 509) mod 30931 behind it): 0: stays, 1: is in the PLACE "
            + "above, 2: below.";
    private static final String LATE = "HOUR is one more (at 9999 none can pass).";
    private static final String WRITTEN = "LET IN, PUT OUT, gone off are written down.";
    private static final String STEPS = "STEPS: LET IN, PUT OUT, GONE, an HOUR (each), YEARS (see V): the latest 30 can be taken back, the latest first "
            + "(where CATS are, TAKEN, DREAMS, how many came, HOUR, X, BOOK are as ahead of it; HOUSES and CATS told since are as told).";

    private TermsEdges() {
    }

    static void all() {
        places();
        houses();
        cats();
        hoursAndBook();
        doorways();
        taking();
        goingOff();
        drawing();
        lateHours();
        written();
        stepsKept();
        stepsBack();
        toldSince();
        takenAndLeft();
        steppedBack();
        used();
    }

    /** A house, door 3, of that dream, and a cat in it of that cold. */
    private static NightCats in(int dream, int cold) {
        NightCats x = new NightCats();
        x.house(3, dream);
        x.cat(3, cold);
        x.let(0, 0);
        return x;
    }

    private static NightCats under(NightCats x, String laws) {
        Edges.rule(x, laws);
        return x;
    }

    private static int next(int x) {
        return (x * 647 + 509) % 30931;
    }

    /** The latest hour is 9999 less so many. */
    private static NightCats late(int less) {
        NightCats x = new NightCats();
        x.house(3, 500);
        x.cat(3, 2);
        x.cat(5, 1);
        for (int i = 0; i < 166; i++) {
            x.hour(60);
        }
        if (less < 39) {
            x.hour(39 - less);
        }
        return x;
    }

    private static void places() {
        Edges.test(11, "PLACES 0 .. 9 around a square (9 is beside 0).", () -> {
            NightCats x = new NightCats();
            x.cat(9, 0);
            x.house(0, 1);
            Edges.due("far from 9 to 0", x.far(0, 0), 1);
            Edges.due("go up from 9", x.go(0, true), true);
            Edges.due("of(0, 0)", x.of(0, 0), 0);
            Edges.due("go down from 0", x.go(0, false), true);
            Edges.due("of(0, 0)", x.of(0, 0), 9);
        });
        Edges.test(11, GONE, () -> {
            NightCats x = new NightCats();
            x.cat(0, 0);
            for (int i = 1; i <= 10; i++) {
                Edges.due("up", x.go(0, true), true);
                Edges.due("the place above", x.of(0, 0), i == 10 ? 0 : i);
            }
            for (int i = 9; i >= 0; i--) {
                Edges.due("down", x.go(0, false), true);
                Edges.due("the place below", x.of(0, 0), i);
            }
        });
        Edges.test(11, "GONE: a CAT without", () -> {
            Edges.still("up, in a house", () -> in(9, 1), x -> Edges.one(x.go(0, true)), 0);
            Edges.still("down, in a house", () -> in(9, 1), x -> Edges.one(x.go(0, false)), 0);
        });
    }

    private static void houses() {
        Edges.test(17, HOUSES, () -> {
            NightCats x = new NightCats();
            for (int i = 0; i < 6; i++) {
                Edges.due("told one by one", x.house(i, 7), i);
                Edges.due("at first none in it", x.ofHouse(i, 2), -1);
                Edges.due("at first 0 came", x.ofHouse(i, 3), 0);
                Edges.due("the next is none yet", x.ofHouse(i + 1, 0), -2);
            }
        });
        Edges.test(17, "how many came 0 .. 999 (at first 0; no more)", () -> {
            NightCats x = new NightCats();
            x.house(0, 1);
            x.cat(0, 0);
            Due.read(x, Due.times(12, "let 0 to 0;out 0;"));
            for (int i = 0; i < 83; i++) {
                x.played(0);
            }
            for (int came = 997; came <= 1001; came++) {
                Edges.due("let in", x.let(0, 0), true);
                Edges.due("it is in", x.of(0, 2), 0);
                Edges.due("how many came", x.ofHouse(0, 3), Math.min(came, 999));
                Edges.due("out", x.out(0), 0);
            }
            Edges.due("written down all the same", x.book(23, 3), 0);
            for (int i = 0; i < 4; i++) {
                x.undo();
            }
            Edges.due("999 came ahead of those two", x.ofHouse(0, 3), 999);
            x.undo();
            x.undo();
            Edges.due("998 came", x.ofHouse(0, 3), 998);
        });
    }

    private static void cats() {
        Edges.test(16, CATS, () -> {
            NightCats x = new NightCats();
            for (int i = 0; i < 6; i++) {
                Edges.due("told one by one", x.cat(i, 7), i);
                Edges.due("at first without", x.of(i, 2), -1);
                Edges.due("at first nothing taken", x.of(i, 3), 0);
                Edges.due("the next is none yet", x.of(i + 1, 0), -2);
            }
        });
        // six dreams of 999 are all there can be: 9999 is never come to
        Edges.test(16, "TAKEN 0 .. 9999 (at first 0; no more)", () -> {
            NightCats x = new NightCats();
            x.cat(4, 9);
            for (int h = 0; h < 6; h++) {
                x.house(4, 999);
            }
            under(x, "takes 99;");
            for (int h = 0; h < 6; h++) {
                x.let(0, h);
                Edges.due("ten times 99 and 9", x.hour(11), 999);
                x.out(h);
            }
            Edges.due("all that can be taken", x.of(0, 3), 5994);
            Edges.due("all dream is gone", x.is(2), 0);
        });
    }

    private static void hoursAndBook() {
        Edges.test(20, "HOUR 0 .. 9999 (at first 0).", () -> {
            Edges.due("at first", new NightCats().is(0), 0);
            NightCats x = late(1);
            Edges.due("9998", x.is(0), 9998);
            x.hour(1);
            Edges.due("9999", x.is(0), 9999);
        });
        Edges.test(20, "X: at first 397.", () -> Edges.due("X", new NightCats().is(1), 397));
        Edges.test(21, "BOOK (the latest 25).", () -> {
            NightCats x = in(9, 1);
            x.hour(1);
            for (int i = 0; i < 12; i++) {
                x.out(0);
                x.let(0, 0);
            }
            Edges.due("25", x.book(-1, 0), 25);
            Edges.due("the first is there yet", x.book(0, 0), 0);
            Edges.due("the last is there", x.book(24, 3), 0);
            x.out(0);
            Edges.due("25 yet", x.book(-1, 0), 25);
            Edges.due("the first is gone", x.book(0, 0), 1);
            Edges.due("the first is an out", x.book(0, 3), 1);
            Edges.due("the last is an out", x.book(24, 3), 1);
            Edges.due("none is the 26th", x.book(25, 0), -2);
            x.undo();
            Edges.due("the first is back", x.book(0, 0), 0);
            Edges.due("as a let", x.book(0, 3), 0);
        });
    }

    private static void doorways() {
        Edges.test(9, LET_IN, () -> {
            for (int place = 0; place < 10; place++) {
                NightCats x = new NightCats();
                x.house(0, 9);
                x.cat(place, 1);
                Edges.due("from " + place + " to the door at 0", x.let(0, 0), place == 0);
                Edges.due("it is in", x.of(0, 2), place == 0 ? 0 : -1);
                Edges.due("came", x.ofHouse(0, 3), place == 0 ? 1 : 0);
            }
        });
        Edges.test(9, "LET IN: a CAT without", () -> Edges.still("one in a house, to one beside it", () -> {
            NightCats x = in(9, 1);
            x.house(3, 4);
            return x;
        }, x -> Edges.one(x.let(0, 1)), 0));
        Edges.test(9, "of a HOUSE with no CAT in it", () -> {
            Edges.still("another is in it", () -> {
                NightCats x = in(9, 1);
                x.cat(3, 4);
                return x;
            }, x -> Edges.one(x.let(1, 0)), 0);
            NightCats x = in(9, 1);
            x.cat(3, 4);
            x.out(0);
            Edges.due("once it is out", x.let(1, 0), true);
            Edges.due("two came", x.ofHouse(0, 3), 2);
        });
        Edges.test(10, "PUT OUT: the CAT in a HOUSE is without, at its door.", () -> {
            NightCats x = in(9, 1);
            Edges.due("out", x.out(0), 0);
            Edges.due("without", x.of(0, 2), -1);
            Edges.due("at its door", x.of(0, 0), 3);
            Edges.due("none is in it", x.ofHouse(0, 2), -1);
            Edges.due("as many came", x.ofHouse(0, 3), 1);
        });
    }

    private static void taking() {
        Edges.test(12, TAKES, () -> {
            int[][] rows = {{0, 4, 0}, {1, 4, 1}, {3, 4, 3}, {4, 4, 4}, {5, 4, 4}, {5, 0, 0}, {999, 9, 9}};
            for (int[] row : rows) {
                NightCats x = in(row[0], row[1]);
                Edges.due("of " + row[0] + " by " + row[1], x.hour(1), row[2]);
                Edges.due("dream", x.ofHouse(0, 1), row[0] - row[2]);
                Edges.due("taken", x.of(0, 3), row[2]);
            }
        });
        Edges.test(12, "(as it is then; by what it has, if that is less)", () -> {
            NightCats x = under(in(20, 4), "takes dream-6+came;");
            Edges.due("20 - 6 + 1", x.hour(1), 15);
            Edges.due("5 - 6 + 1", x.hour(1), 0);
            NightCats y = under(in(20, 4), "takes dream/2+5;");
            Edges.due("15", y.hour(1), 15);
            Edges.due("7 of 5", y.hour(1), 5);
            Edges.due("nothing is left", y.hour(60), 0);
            Edges.due("taken", y.of(0, 3), 20);
            NightCats z = under(in(50, 4), "takes hour*10+taken;");
            Edges.due("at hour 0", z.hour(1), 0);
            Edges.due("at hour 1", z.hour(1), 10);
            Edges.due("at hour 2, 10 being taken", z.hour(1), 30);
        });
        Edges.test(12, "AN HOUR: CATS by number", () -> {
            NightCats x = new NightCats();
            x.cat(0, 1);
            x.cat(0, 1);
            x.cat(0, 1);
            x.hour(1);
            Edges.due("0 by 397: up", x.of(0, 0), 1);
            Edges.due("1 by 9920: down", x.of(1, 0), 9);
            Edges.due("2 by 16032: stays", x.of(2, 0), 0);
        });
    }

    private static void goingOff() {
        Edges.test(12, GOES, () -> {
            int[][] rows = {{-99, 0}, {-1, 0}, {0, 0}, {1, 1}, {99, 1}};
            for (int[] row : rows) {
                NightCats x = under(in(20, 4), "goes " + row[0] + ";");
                Edges.due("an hour", x.hour(1), 4);
                Edges.due("goes says " + row[0], x.of(0, 2), row[1] == 1 ? -1 : 0);
                Edges.due("at the door", x.of(0, 0), 3);
                Edges.due("it draws nothing", x.is(1), 397);
                Edges.due("written down", x.book(-1, 0), 1 + row[1]);
            }
        });
        Edges.test(12, "does goes say more than 0 then", () -> {
            NightCats x = under(in(20, 4), "goes taken-4;");
            x.hour(1);
            Edges.due("4 taken: it stays", x.of(0, 2), 0);
            x.hour(1);
            Edges.due("8 taken: it goes", x.of(0, 2), -1);
            NightCats y = under(in(20, 4), "goes hour;");
            y.hour(1);
            Edges.due("at hour 0 it stays", y.of(0, 2), 0);
            y.hour(1);
            Edges.due("at hour 1 it goes", y.of(0, 2), -1);
            Edges.due("at hour 1", y.book(1, 0), 1);
            NightCats z = under(in(20, 4), "goes inside;");
            z.hour(1);
            Edges.due("it is in as it is asked", z.of(0, 2), -1);
            NightCats without = under(new NightCats(), "goes 9;");
            without.cat(0, 1);
            without.hour(3);
            Edges.due("one without doesn't go off", without.book(-1, 0), 0);
        });
        Edges.test(12, "(and draws nothing in that HOUR)", () -> {
            NightCats x = under(in(20, 4), "goes 1;");
            x.cat(6, 1);
            x.hour(1);
            Edges.due("X is drawn once, for the other", x.is(1), 9920);
            Edges.due("the other is up by 397", x.of(1, 0), 7);
            Edges.due("it is at the door", x.of(0, 0), 3);
            x.hour(1);
            Edges.due("then both draw", x.is(1), next(16032));
            Edges.due("down by 9920", x.of(0, 0), 2);
            Edges.due("stays by 16032", x.of(1, 0), 7);
        });
    }

    private static void drawing() {
        Edges.test(12, DRAW, () -> {
            NightCats x = new NightCats();
            x.cat(9, 1);
            int drawn = 397;
            int place = 9;
            int[] ways = {0, 1, 9};
            int[] seen = new int[3];
            for (int i = 0; i < 60; i++) {
                x.hour(1);
                place = (place + ways[drawn % 3]) % 10;
                seen[drawn % 3]++;
                drawn = next(drawn);
                Edges.due("place behind hour " + i, x.of(0, 0), place);
                Edges.due("X behind hour " + i, x.is(1), drawn);
            }
            Edges.due("each way is seen", Edges.one(seen[0] > 0 && seen[1] > 0 && seen[2] > 0), 1);
        });
        Edges.test(12, "1: is in the PLACE above", () -> {
            NightCats x = new NightCats();
            x.cat(9, 1);
            x.hour(1);
            Edges.due("above 9", x.of(0, 0), 0);
            x.hour(1);
            Edges.due("below 0", x.of(0, 0), 9);
            x.hour(1);
            Edges.due("stays", x.of(0, 0), 9);
        });
        Edges.test(12, "X becoming (X * 647 + 509) mod 30931 behind it", () -> {
            NightCats x = new NightCats();
            x.hour(1);
            Edges.due("without cats X stays", x.is(1), 397);
            x.cat(0, 0);
            int[] due = {9920, 16032, 11328};
            for (int d : due) {
                x.hour(1);
                Edges.due("X", x.is(1), d);
            }
        });
    }

    private static void lateHours() {
        Edges.test(12, LATE, () -> {
            NightCats x = late(2);
            Edges.due("9997", x.is(0), 9997);
            Edges.due("one", x.hour(1), 0);
            Edges.due("9998", x.is(0), 9998);
            Edges.due("one", x.hour(1), 0);
            Edges.due("9999", x.is(0), 9999);
            Edges.due("none", x.hour(1), -1);
            Edges.due("9999", x.is(0), 9999);
        });
        Edges.test(12, "at 9999 none can pass", () -> {
            Edges.still("hour(1)", () -> late(0), x -> x.hour(1), -1);
            Edges.still("hour(60)", () -> late(0), x -> x.hour(60), -1);
            Edges.still("hour 1; in a text", () -> {
                NightCats x = late(0);
                Due.read(x, "hour 1;");
                return x;
            }, x -> x.played(0), 0);
        });
        Edges.test(14, "at 9999 none can pass", () -> {
            NightCats x = late(0);
            x.let(0, 0);
            // 401 mod 6 is 5: an hour
            Edges.due("an hour of a year", x.years(2, 1), 9999);
            Edges.due("X is drawn once", x.is(1), next(401));
            Edges.due("nothing is taken", x.is(3), 0);
        });
        Edges.test(15, "at 9999 none can pass", () -> {
            NightCats x = late(0);
            x.undo();
            Edges.due("back at 9998", x.is(0), 9998);
            Edges.due("one can pass again", x.hour(1), 0);
            Edges.due("and no more", x.hour(1), -1);
        });
    }

    private static void written() {
        Edges.test(21, WRITTEN, () -> {
            NightCats x = new NightCats();
            Edges.due("nothing yet", x.book(-1, 0), 0);
            x.house(3, 9);
            x.cat(3, 1);
            x.cat(4, 1);
            x.go(1, true);
            x.hour(1);
            x.undo();
            Edges.due("GONE and an HOUR aren't", x.book(-1, 0), 0);
            x.let(0, 0);
            x.out(0);
            x.let(0, 0);
            under(x, "goes 1;");
            x.hour(1);
            Edges.due("four are", x.book(-1, 0), 4);
            int[] whats = {0, 1, 0, 2};
            for (int i = 0; i < 4; i++) {
                Edges.due("what", x.book(i, 3), whats[i]);
            }
            x.let(1, 0);
            x.out(1);
            Edges.due("a refused one isn't", x.book(-1, 0), 4);
        });
        Edges.test(14, WRITTEN, () -> {
            NightCats x = new NightCats();
            x.house(5, 60);
            x.cat(5, 1);
            // 397: cat 66 mod 1 is let in to house 397 mod 1
            x.years(0, 1);
            Edges.due("let in by years", x.book(-1, 0), 1);
            Edges.due("what", x.book(0, 3), 0);
        });
    }

    private static void stepsKept() {
        Edges.test(15, "the latest 30 can be taken back", () -> {
            NightCats x = new NightCats();
            x.cat(0, 0);
            for (int i = 1; i <= 32; i++) {
                x.go(0, true);
                Edges.due("steps", x.about(4), Math.min(i, 30));
            }
            for (int i = 29; i >= 0; i--) {
                Edges.due("undo", x.undo(), i);
                Edges.due("place", x.of(0, 0), (2 + i) % 10);
            }
            Edges.due("none", x.undo(), -1);
            Edges.due("the first two stay", x.of(0, 0), 2);
        });
        Edges.test(15, "the latest 30 can be taken back, the latest first", () -> {
            NightCats x = new NightCats();
            x.cat(0, 0);
            for (int round = 0; round < 4; round++) {
                for (int i = 0; i < 20; i++) {
                    x.go(0, true);
                }
                for (int i = 0; i < 13; i++) {
                    x.undo();
                }
            }
            // 7 stay of each 20
            Edges.due("place", x.of(0, 0), 8);
            Edges.due("steps", x.about(4), 17);
            for (int i = 16; i >= 0; i--) {
                Edges.due("undo", x.undo(), i);
                Edges.due("place", x.of(0, 0), (11 + i) % 10);
            }
        });
        Edges.test(56, "STEPS: LET IN, PUT OUT, GONE, an HOUR (each), YEARS (see V)", () -> {
            NightCats x = new NightCats();
            x.house(3, 20);
            x.cat(3, 4);
            Due.read(x, "let 0 to 0;out 0;hour 3;");
            x.by(0);
            x.seen(1, 1);
            x.told(0, 1);
            x.piece(1, 1);
            x.said(0, 0, 1);
            x.foretold(3, 0, 0);
            x.image();
            Edges.due("none is a step yet", x.about(4), 0);
            step(x, 1, s -> s.let(0, 0));
            step(x, 2, s -> s.out(0));
            step(x, 3, s -> s.go(0, true));
            step(x, 4, s -> s.hour(1));
            step(x, 9, s -> s.hour(5));
            step(x, 10, s -> s.years(77, 40));
            x.back();
            step(x, 0, s -> s.undo());
            step(x, 5, s -> s.played(0));
        });
    }

    private static void step(NightCats x, int steps, Consumer<NightCats> deed) {
        deed.accept(x);
        Edges.due("steps", x.about(4), steps);
    }

    private static void stepsBack() {
        Edges.test(15, STEPS, () -> {
            NightCats x = in(20, 4);
            x.cat(9, 2);
            x.hour(1);
            x.out(0);
            x.go(0, false);
            x.years(2, 1);
            Edges.due("years back", x.undo(), 4);
            Edges.due("hour", x.is(0), 1);
            Edges.due("X", x.is(1), 9920);
            Edges.due("gone back", x.undo(), 3);
            Edges.due("place", x.of(0, 0), 3);
            Edges.due("out back", x.undo(), 2);
            Edges.due("it is in", x.of(0, 2), 0);
            Edges.due("the book", x.book(-1, 0), 1);
            Edges.due("the hour back", x.undo(), 1);
            Edges.due("hour", x.is(0), 0);
            Edges.due("X", x.is(1), 397);
            Edges.due("dream", x.ofHouse(0, 1), 20);
            Edges.due("taken", x.of(0, 3), 0);
            Edges.due("place of the other", x.of(1, 0), 9);
            Edges.due("it is in yet", x.of(0, 2), 0);
            Edges.due("let in back", x.undo(), 0);
            Edges.due("without", x.of(0, 2), -1);
            Edges.due("came", x.ofHouse(0, 3), 0);
            Edges.due("the book", x.book(-1, 0), 0);
        });
        Edges.test(15, "the latest first", () -> {
            NightCats x = in(20, 4);
            under(x, "takes 1;goes hour-1;");
            x.hour(4);
            Edges.due("off in the third", x.of(0, 2), -1);
            Edges.due("undo", x.undo(), 4);
            Edges.due("hour", x.is(0), 3);
            Edges.due("off yet", x.of(0, 2), -1);
            Edges.due("undo", x.undo(), 3);
            Edges.due("hour", x.is(0), 2);
            Edges.due("in yet", x.of(0, 2), 0);
        });
    }

    private static void toldSince() {
        Edges.test(15, "HOUSES and CATS told since are as told", () -> {
            NightCats x = in(10, 3);
            x.house(4, 20);
            x.cat(4, 5);
            x.let(1, 1);
            x.hour(2);
            x.out(1);
            x.go(1, true);
            for (int i = 0; i < 5; i++) {
                x.undo();
            }
            Edges.due("the let ahead of them is left", x.about(4), 1);
            Edges.due("and back", x.undo(), 0);
            int[] house = {4, 20, -1, 0};
            int[] cat = {4, 5, -1, 0};
            for (int what = 0; what < 4; what++) {
                Edges.due("house told since", x.ofHouse(1, what), house[what]);
                Edges.due("cat told since", x.of(1, what), cat[what]);
            }
            Edges.due("the one told ahead is without", x.of(0, 2), -1);
            Edges.due("houses", x.about(0), 2);
            Edges.due("cats", x.about(1), 2);
        });
        Edges.test(15, "HOUSES and CATS told since", () -> {
            NightCats x = new NightCats();
            x.cat(0, 1);
            x.go(0, true);
            for (int i = 0; i < 5; i++) {
                x.cat(i, i);
            }
            for (int i = 0; i < 6; i++) {
                x.house(i, i * 100);
            }
            Edges.due("back", x.undo(), 0);
            Edges.due("place of the first", x.of(0, 0), 0);
            for (int i = 0; i < 5; i++) {
                Edges.due("cat", x.of(i + 1, 0), i);
                Edges.due("cat", x.of(i + 1, 1), i);
                Edges.due("cat", x.of(i + 1, 2), -1);
            }
            for (int i = 0; i < 6; i++) {
                Edges.due("house", x.ofHouse(i, 0), i);
                Edges.due("house", x.ofHouse(i, 1), i * 100);
            }
            Edges.due("no seventh", x.cat(0, 0), -1);
        });
    }

    private static void takenAndLeft() {
        Edges.test(12, "by what it has, if that is less", () -> {
            for (int dream = 0; dream <= 6; dream++) {
                NightCats x = in(dream, 5);
                Edges.due("5 of " + dream, x.hour(1), Math.min(5, dream));
                Edges.due("is left", x.ofHouse(0, 1), dream - Math.min(5, dream));
                Edges.due("TAKEN", x.of(0, 3), Math.min(5, dream));
            }
        });
        Edges.test(12, "it goes off: without, at the door", () -> {
            NightCats x = under(in(20, 4), "goes 1;");
            x.hour(1);
            Edges.due("without", x.of(0, 2), -1);
            Edges.due("none is in the house", x.ofHouse(0, 2), -1);
            Edges.due("at the door", x.of(0, 0), 3);
            Edges.due("it can come again at once", x.let(0, 0), true);
            Edges.due("two came", x.ofHouse(0, 3), 2);
        });
        Edges.test(12, "X mod 3", () -> {
            // 397: up, 9920: down, 16032: stays
            int[] due = {6, 5, 5};
            NightCats x = new NightCats();
            x.cat(5, 0);
            for (int d : due) {
                x.hour(1);
                Edges.due("place", x.of(0, 0), d);
            }
        });
    }

    private static void steppedBack() {
        Edges.test(15, "where CATS are, TAKEN, DREAMS, how many came, HOUR, X, BOOK are as ahead of it", () -> {
            String[] laws = {"takes 3;", "takes 3;goes 1;", "takes 3;goes taken-6;"};
            for (String law : laws) {
                for (int n = 1; n <= 29; n++) {
                    NightCats before = under(in(20, 4), law);
                    before.cat(8, 1);
                    NightCats x = under(in(20, 4), law);
                    x.cat(8, 1);
                    x.hour(n);
                    for (int i = 0; i < n; i++) {
                        x.undo();
                    }
                    Edges.due(n + " hours of " + law + " back", Looks.look(x, 0), Looks.look(before, 0));
                }
            }
        });
        Edges.test(15, "GONE", () -> {
            NightCats x = in(20, 4);
            x.cat(9, 1);
            x.go(1, true);
            Edges.due("undo", x.undo(), 1);
            Edges.due("from 0 back to 9", x.of(1, 0), 9);
            Edges.due("the other is in yet", x.of(0, 2), 0);
        });
        Edges.test(21, "the latest 25", () -> {
            NightCats x = in(9, 1);
            for (int n = 1; n <= 60; n++) {
                Edges.due("lines", x.book(-1, 0), Math.min(n, 25));
                Edges.due("the latest", x.book(Math.min(n, 25) - 1, 3), 1 - n % 2);
                Edges.due("behind it", x.book(Math.min(n, 25), 3), -2);
                if (n % 2 == 1) {
                    x.out(0);
                } else {
                    x.let(0, 0);
                }
            }
        });
    }

    private static void used() {
        Edges.test(11, "An object is used for at most 512 calls after it has been made", () -> {
            NightCats x = new NightCats();
            x.cat(0, 0);
            for (int i = 2; i <= 511; i++) {
                x.go(0, true);
            }
            Edges.due("the 512th", x.of(0, 0), 0);
        });
    }
}
