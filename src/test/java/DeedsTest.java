/** Promises 1 to 3, 9 to 21, 54 to 56: houses, cats, what is done to them and taken back, the book, the image. */
public final class DeedsTest {
    public static void main(String[] args) {
        promise1();
        promise2();
        promise3();
        promise9();
        promise10();
        promise11();
        promise12();
        lateHours();
        promise13();
        promise14();
        yearsByHand();
        promise15();
        latestThirty();
        toldSince();
        promise16();
        promise17();
        promise18();
        promise19();
        promise20();
        promise21();
        promise54();
        promise55();
        promise56();
        Due.close();
    }

    /** Houses 0 (door 3, dream 20), 1 (door 7, dream 5); cats 0 (at 3, cold 4), 1 (at 7, cold 2), 2 (at 0, cold 4). */
    private static NightCats furnished() {
        NightCats x = new NightCats();
        x.house(3, 20);
        x.house(7, 5);
        x.cat(3, 4);
        x.cat(7, 2);
        x.cat(0, 4);
        return x;
    }

    private static void promise1() {
        NightCats x = new NightCats();
        for (int what = 0; what < 10; what++) {
            Due.due("about(" + what + ")", x.about(what), what == 3 ? -1 : 0);
        }
        Due.due("hour", x.is(0), 0);
        Due.due("x", x.is(1), 397);
        x.house(1, 2);
        x.cat(1, 2);
        x.hour(4);
        x.seen(1, 1);
        Due.due("back to the first image", x.back(), 0);
        Due.due("houses", x.about(0), 0);
        Due.due("cats", x.about(1), 0);
        Due.due("steps", x.about(4), 0);
        Due.due("sights", x.about(5), 0);
        Due.due("x", x.is(1), 397);
        Due.due("NONE", NightCats.NONE, -1);
    }

    private static void promise2() {
        NightCats x = new NightCats();
        Due.due("door -1", x.house(-1, 5), -1);
        Due.due("door 10", x.house(10, 5), -1);
        Due.due("dream -1", x.house(5, -1), -1);
        Due.due("dream 1000", x.house(5, 1000), -1);
        Due.due("first", x.house(0, 0), 0);
        Due.due("second", x.house(9, 999), 1);
        for (int i = 2; i < 6; i++) {
            Due.due("house", x.house(0, i), i);
        }
        Due.due("the seventh", x.house(0, 0), -1);
        Due.due("houses", x.about(0), 6);
        Due.due("door", x.ofHouse(1, 0), 9);
        Due.due("dream", x.ofHouse(1, 1), 999);
        Due.due("no cat", x.ofHouse(1, 2), -1);
        Due.due("came", x.ofHouse(1, 3), 0);
    }

    private static void promise3() {
        NightCats x = new NightCats();
        Due.due("place -1", x.cat(-1, 5), -1);
        Due.due("place 10", x.cat(10, 5), -1);
        Due.due("cold -1", x.cat(5, -1), -1);
        Due.due("cold 10", x.cat(5, 10), -1);
        for (int i = 0; i < 6; i++) {
            Due.due("cat", x.cat(9 - i, i), i);
        }
        Due.due("the seventh", x.cat(0, 0), -1);
        Due.due("cats", x.about(1), 6);
        Due.due("place", x.of(2, 0), 7);
        Due.due("cold", x.of(2, 1), 2);
        Due.due("without", x.of(2, 2), -1);
        Due.due("taken", x.of(2, 3), 0);
    }

    private static void promise9() {
        NightCats x = furnished();
        Due.due("not at the door", x.let(1, 0), false);
        Due.due("let", x.let(0, 0), true);
        Due.due("it is in", x.of(0, 2), 0);
        Due.due("it has it", x.ofHouse(0, 2), 0);
        Due.due("came", x.ofHouse(0, 3), 1);
        Due.due("one in can't", x.let(0, 0), false);
        x.cat(3, 1);
        Due.due("one is in it", x.let(3, 0), false);
        x.house(3, 1);
        Due.due("one in can't elsewhere", x.let(0, 2), false);
        Due.due("beside it", x.let(3, 2), true);
        Due.due("steps", x.about(4), 2);
        int[] odd = {-1, 4, 6, Integer.MAX_VALUE, Integer.MIN_VALUE};
        for (int o : odd) {
            Due.due("others", x.let(o, 1), false);
            Due.due("others", x.let(1, o), false);
        }
        Due.due("steps yet", x.about(4), 2);
        Due.due("the book", x.book(-1, 0), 2);
    }

    private static void promise10() {
        NightCats x = furnished();
        Due.due("none in it", x.out(0), -1);
        x.let(1, 1);
        Due.due("out", x.out(1), 1);
        Due.due("without", x.of(1, 2), -1);
        Due.due("at its door", x.of(1, 0), 7);
        Due.due("none in it any more", x.out(1), -1);
        Due.due("came stays", x.ofHouse(1, 3), 1);
        Due.due("steps", x.about(4), 2);
        Due.due("others", x.out(-1), -1);
        Due.due("others", x.out(2), -1);
        Due.due("others", x.out(Integer.MAX_VALUE), -1);
        Due.due("in again", x.let(1, 1), true);
        Due.due("came again", x.ofHouse(1, 3), 2);
    }

    private static void promise11() {
        NightCats x = new NightCats();
        x.cat(9, 0);
        x.house(0, 1);
        Due.due("up", x.go(0, true), true);
        Due.due("above 9 is 0", x.of(0, 0), 0);
        Due.due("down", x.go(0, false), true);
        Due.due("below 0 is 9", x.of(0, 0), 9);
        Due.due("down", x.go(0, false), true);
        Due.due("8", x.of(0, 0), 8);
        x.go(0, true);
        x.go(0, true);
        x.let(0, 0);
        Due.due("one in can't", x.go(0, true), false);
        Due.due("others", x.go(1, true), false);
        Due.due("others", x.go(-1, false), false);
        Due.due("steps", x.about(4), 6);
        Due.due("not in the book", x.book(-1, 0), 1);
    }

    private static void promise12() {
        NightCats x = furnished();
        x.let(0, 0);
        x.let(1, 1);
        int[] odd = {0, -1, 61, Integer.MIN_VALUE, Integer.MAX_VALUE};
        for (int o : odd) {
            Due.due("hour of others", x.hour(o), -1);
        }
        Due.due("nothing passed", x.is(0), 0);
        // 4 and 2 each, of 5 the second has but 1 in the third hour
        Due.due("three hours", x.hour(3), 12 + 5);
        Due.due("dream", x.ofHouse(0, 1), 8);
        Due.due("dream", x.ofHouse(1, 1), 0);
        Due.due("taken", x.of(0, 3), 12);
        Due.due("taken", x.of(1, 3), 5);
        Due.due("hour", x.is(0), 3);
        Due.due("steps", x.about(4), 5);
        // of 397 by 3 is left 1: up; of 9920 2: down; of 16032 0: it stays
        Due.due("X", x.is(1), (16032 * 647 + 509) % 30931);
        Due.due("the third cat", x.of(2, 0), 0);
        Due.due("more", x.hour(2), 8);
        Due.due("no more", x.hour(60), 0);
        goingOff();
    }

    private static void goingOff() {
        NightCats x = furnished();
        Due.read(x, "takes 3+taken; goes taken-3;");
        x.by(0);
        x.let(0, 0);
        Due.due("3 are taken", x.hour(1), 3);
        Due.due("it stays", x.of(0, 2), 0);
        int drawn = x.is(1);
        Due.due("6 are taken", x.hour(1), 6);
        Due.due("it is off, by what is taken then", x.of(0, 2), -1);
        Due.due("at the door", x.of(0, 0), 3);
        for (int i = 0; i < 2; i++) {
            drawn = (drawn * 647 + 509) % 30931;
        }
        Due.due("it drew nothing", x.is(1), drawn);
        Due.due("the book", x.book(-1, 0), 2);
        Due.due("at hour 1", x.book(1, 0), 1);
        Due.due("off", x.book(1, 3), 2);
        Due.due("went", x.goes(0), 6);
        // by number: the second takes from a house that the first has left in the same hour
        NightCats y = new NightCats();
        y.house(2, 50);
        y.cat(2, 1);
        y.cat(2, 9);
        Due.read(y, "takes hour*10+who;goes inside;");
        y.by(0);
        y.hour(1);
        y.undo();
        y.let(1, 0);
        Due.due("by number", y.hour(1), 1);
        Due.due("off at once", y.ofHouse(0, 2), -1);
        Due.due("it drew nothing", y.of(1, 0), 2);
    }

    private static void lateHours() {
        NightCats x = new NightCats();
        x.cat(0, 1);
        for (int i = 0; i < 166; i++) {
            x.hour(60);
        }
        Due.due("hour", x.is(0), 9960);
        Due.due("beyond 9999", x.hour(40), -1);
        Due.due("nothing is done", x.is(0), 9960);
        Due.due("to 9990", x.hour(30), 0);
        int place = x.foretold(9, 0, 0);
        Due.due("those that can pass", x.foretold(60, 0, 0), place);
        Due.read(x, "goes 1; hour 4; hour 6; cat 0 cold 0;");
        Due.due("of six hours five can pass", x.played(0), 2);
        Due.due("they do", x.is(0), 9999);
        Due.due("as foretold", x.of(0, 0), place);
        Due.due("no more", x.hour(1), -1);
        Due.due("no more", x.played(0), 1);
        Due.due("cats", x.about(1), 1);
        Due.due("years", x.years(3, 40), 9999);
        Due.due("nothing comes", x.foretold(1, 0, 0), x.of(0, 0));
        x.undo();
        Due.due("undo", x.undo(), 28);
        Due.due("the last hour is back", x.is(0), 9998);
        Due.due("one more", x.hour(1), 0);
    }

    private static void promise13() {
        NightCats x = new NightCats();
        Due.due("others", x.played(0), -2);
        Due.due("others", x.played(-1), -2);
        Due.read(x, "house 2 dream 9;takes 5;cat 2 cold 1;let 0 to 0;hour 1;goes 1;out 0;down 0;up 0;up 0;");
        Due.due("all", x.played(0), -1);
        Due.due("others", x.played(1), -2);
        Due.due("no law of it ruled", x.of(0, 3), 1);
        Due.due("place", x.of(0, 0), 3);
        Due.due("steps", x.about(4), 6);
        Due.due("the book", x.book(-1, 0), 2);
        Due.due("again: it isn't at the door", x.played(0), 3);
        Due.due("what was done stays", x.about(0), 2);
        x.by(0);
        Due.due("undo", x.undo(), 5);
        Due.due("place", x.of(0, 0), 2);
        Due.read(x, "out 0;");
        Due.read(x, "cat 0 cold 0;cat 0 cold 0;cat 0 cold 0;cat 0 cold 0;cat 0 cold 0;cat 0 cold 0;");
        Due.read(x, "house 0 dream 0;house 0 dream 0;house 0 dream 0;house 0 dream 0;up 5;up 1;let 5 to 5;out 5;down 5;");
        Due.due("none in it", x.played(1), 0);
        Due.due("the seventh cat", x.played(2), 4);
        Due.due("all", x.played(3), 6);
        Due.due("the seventh house", x.played(3), 0);
        promise13ByHand();
    }

    private static void promise13ByHand() {
        NightCats x = new NightCats();
        Due.read(x, "up 0;");
        Due.read(x, "down 0;");
        Due.read(x, "let 0 to 0;");
        Due.due("no such cat", x.played(0), 0);
        Due.due("no such cat", x.played(1), 0);
        Due.due("no such cat", x.played(2), 0);
        x.house(0, 1);
        x.cat(0, 0);
        Due.due("let", x.played(2), -1);
        Due.due("in", x.played(0), 0);
        Due.due("in", x.played(1), 0);
        Due.due("in", x.played(2), 0);
        x.out(0);
        Due.due("down", x.played(1), -1);
        Due.due("9", x.of(0, 0), 9);
        Due.due("up", x.played(0), -1);
        Due.due("0", x.of(0, 0), 0);
        // no more than 999 came
        Due.read(x, Due.times(12, "let 0 to 0;out 0;"));
        for (int i = 0; i < 83; i++) {
            x.played(3);
        }
        Due.due("997 came", x.ofHouse(0, 3), 997);
        x.let(0, 0);
        x.out(0);
        x.let(0, 0);
        Due.due("999 came", x.ofHouse(0, 3), 999);
        x.out(0);
        Due.due("it comes all the same", x.let(0, 0), true);
        Due.due("no more", x.ofHouse(0, 3), 999);
    }

    private static void promise14() {
        NightCats x = new NightCats();
        Due.due("seed -1", x.years(-1, 1), -1);
        Due.due("seed 10000", x.years(10000, 1), -1);
        Due.due("n 0", x.years(0, 0), -1);
        Due.due("n 41", x.years(0, 41), -1);
        Due.due("X as it was", x.is(1), 397);
        Due.due("no step", x.about(4), 0);
        // 397 mod 6 is 1: none there; X is 9920 then
        Due.due("one draw", x.years(0, 1), 0);
        Due.due("X", x.is(1), 9920);
        Due.due("one step", x.about(4), 1);
        // 20395 mod 6 is 1
        Due.due("one draw", x.years(9999, 1), 0);
        Due.due("X", x.is(1), (20395 * 647 + 509) % 30931);
        // 399 mod 6 is 3; 401 mod 6 is 5: an hour
        Due.due("an hour", x.years(2, 1), 1);
        Due.due("undo", x.undo(), 2);
        Due.due("X as ahead", x.is(1), (20395 * 647 + 509) % 30931);
        Due.due("hour as ahead", x.is(0), 0);
        x.undo();
        x.undo();
        Due.due("X as ahead of all", x.is(1), 397);
    }

    /** Each draw told in numbers, by the first X of a seed: 2 * seed + 397. */
    private static void yearsByHand() {
        NightCats x = new NightCats();
        x.house(3, 50);
        x.house(5, 60);
        x.cat(5, 1);
        x.cat(3, 2);
        x.cat(8, 3);
        // 399: 3, 399 / 6 is 66: even, cat 66 mod 3, 0, goes up
        x.years(1, 1);
        Due.due("up", x.of(0, 0), 6);
        // 405: 3, 67: odd, cat 1 goes down
        x.years(4, 1);
        Due.due("down", x.of(1, 0), 2);
        x.undo();
        x.undo();
        // 397: 1, 66: cat 0 to house 397 mod 2, 1
        x.years(0, 1);
        Due.due("let in", x.of(0, 2), 1);
        Due.due("in the book", x.book(0, 3), 0);
        // 407: 5: an hour
        Due.due("hour", x.years(5, 1), 1);
        Due.due("taken", x.of(0, 3), 1);
        // 411: 3, 68: cat 2 up; 399: cat 0 is in, nothing
        x.years(7, 1);
        int place = x.of(0, 0);
        x.years(1, 1);
        Due.due("one in isn't gone", x.of(0, 0), place);
        Due.due("nor put out", x.of(0, 2), 1);
        // X is odd, and so is what it is by 2 of 6: 397 + 2 * seed is never 2 mod 6; the second draw can be
        evenDraws();
    }

    private static void evenDraws() {
        for (int seed = 0; seed < 400; seed++) {
            NightCats x = new NightCats();
            x.house(3, 50);
            x.house(5, 60);
            x.cat(5, 1);
            x.cat(3, 2);
            x.let(1, 0);
            x.let(0, 1);
            int first = seed * 2 + 397;
            int second = (first * 647 + 509) % 30931;
            if (first % 6 == 3 && second % 6 == 2) {
                x.years(seed, 2);
                Due.due("one step, seed " + seed, x.about(4), 3);
                Due.due("one is put out, seed " + seed, x.ofHouse(second % 2, 2), -1);
                Due.due("the other stays, seed " + seed, x.ofHouse(1 - second % 2, 2), second % 2);
                Due.due("the book", x.book(2, 3), 1);
            }
            if (first % 6 == 3 && second % 6 == 4) {
                Due.due("an hour, seed " + seed, x.years(seed, 2), 1);
                Due.due("3 are taken", x.is(3), 3);
                Due.due("one step, seed " + seed, x.undo(), 2);
                Due.due("none is taken", x.is(3), 0);
            }
            if (first % 6 == 3 && second % 6 == 0) {
                x.out(0);
                x.out(1);
                int way = first / 6 % 2 == 0 ? 1 : 9;
                x.go(first / 6 % 2, way == 9);
                int cat = second / 6 % 2;
                x.years(seed, 2);
                Due.due("let in, seed " + seed, x.of(cat, 2), cat == 1 - second % 2 ? second % 2 : -1);
                Due.due("one step, seed " + seed, x.about(4), 6);
            }
        }
    }

    private static void promise15() {
        NightCats x = furnished();
        Due.due("none", x.undo(), -1);
        x.let(0, 0);
        x.go(2, true);
        x.hour(2);
        x.out(0);
        Due.due("steps", x.about(4), 5);
        Due.due("out back", x.undo(), 4);
        Due.due("in again", x.of(0, 2), 0);
        Due.due("the book", x.book(-1, 0), 1);
        Due.due("an hour back", x.undo(), 3);
        Due.due("hour", x.is(0), 1);
        Due.due("taken", x.of(0, 3), 4);
        Due.due("dream", x.ofHouse(0, 1), 16);
        Due.due("X", x.is(1), (9920 * 647 + 509) % 30931);
        Due.due("an hour back", x.undo(), 2);
        Due.due("X", x.is(1), 397);
        Due.due("gone back", x.undo(), 1);
        Due.due("place", x.of(2, 0), 0);
        Due.due("let back", x.undo(), 0);
        Due.due("came", x.ofHouse(0, 3), 0);
        Due.due("the book", x.book(-1, 0), 0);
        Due.due("none", x.undo(), -1);
        Due.due("dream", x.is(2), 25);
    }

    private static void latestThirty() {
        NightCats x = new NightCats();
        x.cat(0, 0);
        for (int i = 0; i < 47; i++) {
            x.go(0, true);
        }
        Due.due("thirty", x.about(4), 30);
        for (int i = 29; i >= 0; i--) {
            Due.due("undo", x.undo(), i);
            Due.due("place", x.of(0, 0), (17 + i) % 10);
        }
        Due.due("no more", x.undo(), -1);
        Due.due("place", x.of(0, 0), 7);
        x.hour(60);
        Due.due("thirty of sixty", x.about(4), 30);
        for (int i = 0; i < 30; i++) {
            x.undo();
        }
        Due.due("thirty have passed", x.is(0), 30);
        // a full book comes back
        NightCats y = new NightCats();
        y.house(0, 0);
        y.cat(0, 0);
        for (int i = 0; i < 14; i++) {
            y.let(0, 0);
            y.out(0);
            y.hour(1);
            y.undo();
        }
        Due.due("the book is full", y.book(-1, 0), 25);
        Due.due("the eldest is an out", y.book(0, 3), 1);
        y.undo();
        Due.due("full yet", y.book(-1, 0), 25);
        Due.due("the eldest is a let", y.book(0, 3), 0);
        Due.due("the latest is a let", y.book(24, 3), 0);
    }

    private static void toldSince() {
        NightCats x = new NightCats();
        x.house(1, 10);
        x.cat(1, 3);
        x.let(0, 0);
        x.house(4, 20);
        x.cat(4, 5);
        x.let(1, 1);
        x.hour(1);
        x.undo();
        x.undo();
        Due.due("undo", x.undo(), -1 + 1);
        Due.due("houses", x.about(0), 2);
        Due.due("cats", x.about(1), 2);
        Due.due("door", x.ofHouse(1, 0), 4);
        Due.due("dream as told", x.ofHouse(1, 1), 20);
        Due.due("came", x.ofHouse(1, 3), 0);
        Due.due("place as told", x.of(1, 0), 4);
        Due.due("cold as told", x.of(1, 1), 5);
        Due.due("without", x.of(1, 2), -1);
        Due.due("taken", x.of(1, 3), 0);
        Due.due("the first", x.of(0, 2), -1);
        Due.due("sights are no steps", x.seen(1, 1), 1);
        Due.due("none", x.undo(), -1);
    }

    private static void promise16() {
        NightCats x = furnished();
        int[][] rows = {{3, 4, -1, 0}, {7, 2, -1, 0}, {0, 4, -1, 0}};
        for (int c = 0; c < 3; c++) {
            for (int what = 0; what < 4; what++) {
                Due.due("of", x.of(c, what), rows[c][what]);
            }
            Due.due("of", x.of(c, 4), -2);
            Due.due("of", x.of(c, -1), -2);
        }
        Due.due("of", x.of(3, 0), -2);
        Due.due("of", x.of(-1, 0), -2);
        x.let(1, 1);
        x.hour(1);
        Due.due("in", x.of(1, 2), 1);
        Due.due("place", x.of(1, 0), 7);
        Due.due("taken", x.of(1, 3), 2);
    }

    private static void promise17() {
        NightCats x = furnished();
        int[][] rows = {{3, 20, -1, 0}, {7, 5, -1, 0}};
        for (int h = 0; h < 2; h++) {
            for (int what = 0; what < 4; what++) {
                Due.due("ofHouse", x.ofHouse(h, what), rows[h][what]);
            }
            Due.due("ofHouse", x.ofHouse(h, 4), -2);
            Due.due("ofHouse", x.ofHouse(h, -1), -2);
        }
        Due.due("ofHouse", x.ofHouse(2, 0), -2);
        Due.due("ofHouse", x.ofHouse(-1, 0), -2);
        x.let(0, 0);
        x.hour(2);
        Due.due("cat", x.ofHouse(0, 2), 0);
        Due.due("came", x.ofHouse(0, 3), 1);
        Due.due("dream", x.ofHouse(0, 1), 12);
    }

    private static void promise18() {
        NightCats x = furnished();
        Due.due("cold", x.takes(1, 0), 2);
        Due.due("others", x.takes(3, 0), -100);
        Due.due("others", x.takes(-1, 0), -100);
        Due.due("others", x.takes(0, 2), -100);
        Due.due("others", x.takes(0, -1), -100);
        Due.read(x, "takes dream-cold+came*10+who*3;");
        x.by(0);
        Due.due("by law", x.takes(1, 0), 21);
        Due.due("by law", x.takes(2, 1), 7);
        x.let(0, 0);
        Due.due("as it is now", x.takes(2, 0), 32);
        Due.read(x, "goes 3;");
        x.by(1);
        Due.due("a text without it", x.takes(1, 0), 2);
    }

    private static void promise19() {
        NightCats x = furnished();
        Due.due("without", x.goes(0), 0);
        Due.due("others", x.goes(3), -100);
        Due.due("others", x.goes(-1), -100);
        Due.read(x, "goes place-cold*2+inside*9+who;");
        x.by(0);
        Due.due("goes", x.goes(0), -5);
        Due.due("goes", x.goes(1), 4);
        x.let(0, 0);
        Due.due("goes inside", x.goes(0), 4);
        Due.read(x, "takes 3;");
        x.by(1);
        Due.due("a text without it", x.goes(0), 0);
    }

    private static void promise20() {
        NightCats x = furnished();
        int[] due = {0, 397, 25, 0};
        for (int what = 0; what < 4; what++) {
            Due.due("is", x.is(what), due[what]);
        }
        Due.due("is", x.is(4), -2);
        Due.due("is", x.is(-1), -2);
        x.let(0, 0);
        x.let(1, 1);
        x.hour(3);
        int[] then = {3, (16032 * 647 + 509) % 30931, 8, 17};
        for (int what = 0; what < 4; what++) {
            Due.due("is", x.is(what), then[what]);
        }
    }

    private static void promise21() {
        NightCats x = furnished();
        Due.due("none", x.book(-1, 0), 0);
        Due.due("none such", x.book(0, 0), -2);
        x.hour(2);
        for (int i = 0; i < 10 && x.of(1, 0) != 7; i++) {
            x.go(1, true);
        }
        x.let(1, 1);
        x.hour(1);
        x.out(1);
        Due.due("two", x.book(-1, 3), 2);
        int[][] rows = {{2, 1, 1, 0}, {3, 1, 1, 1}};
        for (int i = 0; i < 2; i++) {
            for (int what = 0; what < 4; what++) {
                Due.due("book", x.book(i, what), rows[i][what]);
            }
            Due.due("book", x.book(i, 4), -2);
            Due.due("book", x.book(i, -1), -2);
        }
        Due.due("none such", x.book(2, 0), -2);
        Due.due("none such", x.book(-2, 0), -2);
        // the latest 25, from the eldest on
        x.cat(3, 1);
        for (int i = 0; i < 13; i++) {
            x.let(3, 0);
            x.out(0);
            x.let(1, 1);
            x.out(1);
        }
        Due.due("25", x.book(-1, 0), 25);
        Due.due("none such", x.book(25, 0), -2);
        // of 54 lines the 30th is the eldest: the 28th of these, an out of cat 1
        Due.due("the eldest", x.book(0, 1), 1);
        Due.due("the eldest", x.book(0, 3), 1);
        Due.due("the next", x.book(1, 1), 3);
        Due.due("the latest", x.book(24, 1), 1);
        Due.due("out", x.book(24, 3), 1);
        // the highest numbers
        NightCats y = new NightCats();
        for (int i = 0; i < 6; i++) {
            y.house(5, 9);
            y.cat(5, 0);
        }
        for (int i = 0; i < 100; i++) {
            y.hour(60);
        }
        for (int i = 0; i < 10 && y.of(5, 0) != 5; i++) {
            y.go(5, true);
        }
        Due.due("let", y.let(5, 5), true);
        int[] row = {6000, 5, 5, 0};
        for (int what = 0; what < 4; what++) {
            Due.due("book", y.book(0, what), row[what]);
        }
    }

    private static void promise54() {
        NightCats x = furnished();
        x.hour(7);
        Due.due("image", x.image(), 7);
        x.hour(5);
        Due.due("back", x.back(), 7);
        Due.due("it stays", x.back(), 7);
        x.hour(1);
        Due.due("another image", x.image(), 8);
        x.undo();
        Due.due("back", x.back(), 8);
    }

    private static void promise55() {
        NightCats x = furnished();
        Due.read(x, "takes 1;goes 5;");
        x.by(0);
        x.let(0, 0);
        x.hour(1);
        x.seen(4, 4);
        x.told(1, 5);
        x.piece(2, 1);
        x.said(1, 1, 9);
        x.image();
        int[] about = {2, 3, 1, 0, 2, 1, 1, 1, 1};
        Due.tape(x, "goes ;");
        x.text();
        Due.tape(x, "up 0;");
        x.by(-1);
        x.house(1, 1);
        x.cat(1, 1);
        x.seen(-1, 0);
        x.seen(9, 9);
        x.seen(8, 8);
        x.told(-1, 0);
        x.piece(1, 1);
        x.said(-1, 0, 0);
        x.undo();
        x.undo();
        x.years(77, 40);
        for (int i = 0; i < 2; i++) {
            Due.due("back", x.back(), 1);
            for (int what = 0; what < about.length; what++) {
                Due.due("about " + what, x.about(what), about[what]);
            }
            Due.due("the tape stays", x.about(9), 5);
            Due.due("the fault stays", x.fault(0), 1);
            Due.due("its place", x.fault(1), 5);
            Due.due("dream", x.is(2), 24);
            Due.due("the cat is off", x.of(0, 2), -1);
            Due.due("the book", x.book(1, 3), 2);
            Due.due("sight", x.same(0, 0), true);
            Due.due("goes", x.goes(0), 5);
            Due.due("undo", x.undo(), 1);
            Due.due("the cat is in", x.of(0, 2), 0);
            x.text();
            Due.tape(x, "goes ;");
            x.text();
            Due.tape(x, "up 0;");
        }
    }

    private static void promise56() {
        NightCats x = furnished();
        Due.read(x, "up 0;");
        Due.read(x, "up 1;");
        x.by(1);
        x.hour(4);
        x.seen(1, 1);
        x.seen(1, 1);
        x.told(0, 1);
        x.piece(1, 1);
        x.piece(1, 1);
        x.piece(1, 1);
        x.said(0, 0, 1);
        x.said(0, 0, 1);
        x.feed(0, 0, 0, 0, 0);
        int[] due = {2, 3, 2, 1, 4, 2, 1, 3, 2, 20};
        for (int what = 0; what < 10; what++) {
            Due.due("about", x.about(what), due[what]);
        }
        Due.due("about", x.about(10), -2);
        Due.due("about", x.about(-1), -2);
    }
}
