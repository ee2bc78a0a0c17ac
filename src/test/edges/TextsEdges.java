/** Part II and promises 4 to 8: the tape, tokens, faults, what laws reckon, what is played. */
final class TextsEdges {
    private static final String TOKENS = "TOKENS, blanks (32, 10) aside: letters a .. z, A .. Z one behind the other (one TOKEN), digits likewise (NUMBERS, 0 .. 9999), "
            + "<= >= < > = # + - * / ( ) ; (the longest).";
    private static final String TURN = "turn ONE to ONE (how many PLACES up the second is from the first around ten, 0 .. 9, both taken by 10, signs aside)";
    private static final String FAULTS = "FAULTS, the first as TOKENS are come to, at the TOKEN's first byte (of the end at the length), of one the least: "
            + "1 it can't stand there, or is none.";
    private static final String NOT_TOLD = "2 a NUMBER that isn't one of those told (above 9999; PLACES, COLD 0 .. 9, DREAM 0 .. 999, HOUSES, CATS 0 .. 5, HOURS 1 .. 60).";
    private static final String TOO_DEEP = "3 the 9th of ( not turn chill if and - (of one ONE) that are open around one another (at it; turn till its second is whole).";
    private static final String STEPS = "From the left; / cuts towards 0, by 0 it is 0; what is above 1000000 (below the same less) is that, at each step.";
    private static final String RULES = "THE TEXT (told; at first none) rules. takes: 0 at least, 99 at most; without: COLD. goes: -99 at least, 99 at most; without: 0.";
    private static final String PLAYED = "PLAYED by a TEXT: its CLAUSES but laws, in their order, as by hand; one that can't be ends it (of so many HOURS those that can pass do): "
            + "its number among all CLAUSES (from 0); what was done stays.";
    private static final String[] OPENERS = {"(", "not ", "turn ", "turn 1 to ", "chill ", "if ", "-"};

    private TextsEdges() {
    }

    static void all() {
        feeding();
        ending();
        telling();
        faulty();
        ruling();
        blanks();
        letters();
        numbers();
        longest();
        clauses();
        forms();
        grammar();
        places();
        least();
        notTold();
        tooDeep();
        closed();
        laws();
        names();
        steps();
        ones();
        asks();
        namesAsked();
        limits();
        played();
        playedHours();
        textsOfThemselves();
        rulesOfThemselves();
    }

    /** Cats 0 (at 7, cold 3) and 1 (at 4, cold 8), house 0 (door 4, dream 30), cat 1 in it. */
    private static NightCats furnished() {
        NightCats x = new NightCats();
        x.house(4, 30);
        x.cat(7, 3);
        x.cat(4, 8);
        x.let(1, 0);
        return x;
    }

    /** Two texts, one that rules, a fault, some bytes of a tape. */
    private static NightCats busy() {
        NightCats x = furnished();
        Due.read(x, "takes cold+1;goes taken-20;");
        Due.read(x, "up 0;hour 1;");
        x.by(0);
        Due.read(x, "up 0;up 6;");
        Due.tape(x, "takes 4");
        return x;
    }

    private static NightCats full() {
        NightCats x = busy();
        x.end(0);
        Due.read(x, "goes 3;");
        Due.read(x, "down 1;");
        Due.tape(x, "takes 4;");
        return x;
    }

    private static long law(String sum) {
        NightCats x = furnished();
        int text = Due.read(x, "goes " + sum + ";");
        Edges.due("goes " + sum + "; is a text", text, 0);
        x.by(text);
        return x.goes(1);
    }

    private static void lawIs(String sum, long want) {
        Edges.due("goes " + sum, law(sum), want);
    }

    private static void fault(String all, int fault, int place) {
        NightCats x = new NightCats();
        Edges.due("text of " + all, Due.read(x, all), fault == 0 ? 0 : -1);
        Edges.due("fault of " + all, x.fault(0), fault);
        Edges.due("place of the fault of " + all, x.fault(1), place);
    }

    private static void fine(String all) {
        fault(all, 0, -1);
    }

    private static void feeding() {
        Edges.test(4, "Twenty bytes come behind the tape, the highest of a first: how many it has.", () -> {
            NightCats x = new NightCats();
            Edges.due("the first twenty", x.feed(0x7570302d, 0, 0, 0, 0), 20);
            x.text();
            Edges.due("- can't stand behind up 0", x.fault(1), 3);
            // "out 0;out 1;out 2;\n;": the last byte of e is the twentieth
            Edges.due("twenty", x.feed(0x6f757420, 0x303b6f75, 0x7420313b, 0x6f757420, 0x323b0a3b), 20);
            Edges.due("a fault", x.text(), -1);
            Edges.due("at the twentieth byte", x.fault(1), 19);
            for (int at = 0; at < 20; at++) {
                int[] words = {0x20202020, 0x20202020, 0x20202020, 0x20202020, 0x20202020};
                words[at / 4] ^= 1 << 24 - at % 4 * 8;
                x.feed(words[0], words[1], words[2], words[3], words[4]);
                x.text();
                Edges.due("a sign that is none", x.fault(1), at);
            }
            // a highest byte of 128 and more, and the least number
            x.feed(0x20202020, 0xff202020, 0, 0, 0);
            x.text();
            Edges.due("255", x.fault(1), 4);
            x.feed(Integer.MIN_VALUE, 0, 0, 0, 0);
            x.text();
            Edges.due("128", x.fault(1), 0);
        });
        Edges.test(4, "come behind the tape", () -> {
            NightCats x = new NightCats();
            x.feed(0x75702030, 0x3b000000, 0, 0, 0);
            x.end(5);
            Edges.due("25", x.feed(0x75702031, 0x3b202020, 0x20202020, 0x20202020, 0x20202020), 25);
            Edges.due("a text", x.text(), 0);
            x.cat(0, 0);
            Edges.due("its second clause can't be", x.played(0), 1);
        });
        Edges.test(4, "NONE, and none come, if there would be more than 300.", () -> {
            NightCats x = new NightCats();
            for (int i = 1; i <= 15; i++) {
                Edges.due("feed", x.feed(1, 2, 3, 4, 5), 20 * i);
            }
            Edges.due("behind 300", x.feed(1, 2, 3, 4, 5), -1);
            Edges.due("300 yet", x.about(9), 300);
            for (int has : new int[] {299, 290, 281}) {
                x.end(has);
                Edges.due("behind " + has, x.feed(1, 2, 3, 4, 5), -1);
                Edges.due("none come", x.about(9), has);
            }
            x.end(280);
            Edges.due("behind 280", x.feed(1, 2, 3, 4, 5), 300);
        });
        Edges.test(4, "and none come", () -> Edges.still("feed", () -> {
            NightCats x = busy();
            Due.tape(x, Due.times(40, "up 0 ; ") + "x");
            return x;
        }, x -> x.feed(1, 2, 3, 4, 5), -1));
    }

    private static void ending() {
        Edges.test(5, "The tape has its first n bytes alone: n.", () -> {
            NightCats x = new NightCats();
            Edges.due("end(0) of an empty one", x.end(0), 0);
            Due.tape(x, "up 0;up 1;up 2;");
            Edges.due("end(15) of 15", x.end(15), 15);
            Edges.due("end(10)", x.end(10), 10);
            Edges.due("10 bytes", x.about(9), 10);
            Edges.due("two clauses", x.text(), 0);
            x.cat(0, 0);
            Edges.due("the second, number 1, is the last", x.played(0), 1);
            Due.tape(x, "up 9;");
            Edges.due("end(0)", x.end(0), 0);
            Edges.due("without them it is a text", x.text(), 1);
        });
        Edges.test(5, "NONE, and nothing is done, if it has not so many, or n is below 0.", () -> {
            int[] odd = {8, 300, 301, -1, -2, Integer.MAX_VALUE, Integer.MIN_VALUE};
            for (int n : odd) {
                Edges.still("end(" + n + ") of 7", TextsEdges::busy, x -> x.end(n), -1);
            }
            Edges.due("end(7) of 7", busy().end(7), 7);
            Edges.due("end(1) of none", new NightCats().end(1), -1);
        });
        Edges.test(5, "if it has not so many", () -> {
            NightCats x = new NightCats();
            for (int i = 0; i < 15; i++) {
                x.feed(0, 0, 0, 0, 0);
            }
            Edges.due("end(301) of 300", x.end(301), -1);
            Edges.due("end(300) of 300", x.end(300), 300);
            Edges.due("end(299) of 300", x.end(299), 299);
            Edges.due("end(300) of 299", x.end(300), -1);
        });
    }

    private static void telling() {
        Edges.test(6, "TEXTS 0 .. 3: of up to 300 bytes.", () -> {
            NightCats x = new NightCats();
            for (int i = 0; i < 4; i++) {
                Edges.due("text", Due.read(x, Due.times(300 - i, " ")), i);
                Edges.due("texts", x.about(2), i + 1);
            }
            Edges.due("a fifth", x.text(), -1);
            // a clause whose last byte is the 300th
            fine(Due.times(294, " ") + "up 0; ");
            fine(Due.times(295, " ") + "up 0;");
            fault(Due.times(295, " ") + "up 0:", 1, 299);
            fault(Due.times(296, " ") + "up 0", 1, 300);
            fault(Due.times(299, " ") + ";", 1, 299);
            // as many tokens as bytes
            fault(Due.times(300, ";"), 1, 0);
            fault(Due.times(299, "("), 1, 0);
        });
        Edges.test(6, "The tape (empty then) is a TEXT: its number.", () -> {
            NightCats x = new NightCats();
            Edges.due("of none", x.text(), 0);
            Edges.due("all of none is done", x.played(0), -1);
            Due.tape(x, "up 0;");
            Edges.due("text", x.text(), 1);
            Edges.due("empty then", x.about(9), 0);
            Edges.due("the empty tape", x.text(), 2);
        });
        Edges.test(6, "NONE: it has a FAULT", () -> {
            NightCats x = busy();
            Edges.due("text", x.text(), -1);
            Edges.due("no more texts", x.about(2), 2);
            Edges.due("empty then", x.about(9), 0);
            Edges.due("no text of that number", x.by(2), false);
            Edges.due("nor played", x.played(2), -2);
            Edges.due("the old one rules", x.takes(0, 0), 4);
            Edges.due("the next is", Due.read(x, "takes 9;"), 2);
            x.by(2);
            Edges.due("it rules", x.takes(0, 0), 9);
        });
        Edges.test(6, "or (the tape stays) there are 4.", () -> {
            Edges.still("a fifth", TextsEdges::full, NightCats::text, -1);
            Edges.still("a fifth with a fault", () -> {
                NightCats x = full();
                Due.tape(x, "takes;");
                return x;
            }, NightCats::text, -1);
            NightCats x = full();
            x.text();
            Edges.due("bytes", x.about(9), 8);
            Edges.due("texts", x.about(2), 4);
        });
    }

    private static void faulty() {
        Edges.test(7, "Of the latest text that was read: 0 its FAULT (0 without), 1 its place (NONE without).", () -> {
            NightCats x = new NightCats();
            Due.read(x, "up 6;");
            Edges.due("fault", x.fault(0), 2);
            Edges.due("place", x.fault(1), 3);
            Due.read(x, ";");
            Edges.due("the latest: fault", x.fault(0), 1);
            Edges.due("the latest: place, the first byte", x.fault(1), 0);
            Due.tape(x, "up 6;");
            Edges.due("not read yet", x.fault(0), 1);
            Due.read(x, "up 5;");
            Edges.due("without", x.fault(0), 0);
            Edges.due("without", x.fault(1), -1);
        });
        Edges.test(7, "NONE for others, and ahead of any.", () -> {
            int[] whats = {-1, 2, 0, 1, 9, Integer.MAX_VALUE, Integer.MIN_VALUE};
            for (int what : whats) {
                Edges.still("fault(" + what + ") ahead of any", NightCats::new, x -> x.fault(what), -1);
                if (what != 0 && what != 1) {
                    Edges.still("fault(" + what + ")", TextsEdges::busy, x -> x.fault(what), -1);
                }
            }
            NightCats x = new NightCats();
            Due.tape(x, ";");
            Edges.due("a tape alone is no text that was read", x.fault(0), -1);
            Edges.due("nor has it a place", x.fault(1), -1);
        });
        Edges.test(7, "the latest text that was read", () -> {
            NightCats x = new NightCats();
            for (int i = 0; i < 4; i++) {
                Due.read(x, " ");
            }
            Due.read(x, ";");
            Edges.due("a fifth isn't read", x.fault(0), 0);
            Edges.due("nor its place", x.fault(1), -1);
        });
    }

    private static void ruling() {
        Edges.test(8, "THE TEXT (NONE: none): true.", () -> {
            NightCats x = busy();
            Edges.due("by(1)", x.by(1), true);
            Edges.due("THE TEXT", x.about(3), 1);
            Edges.due("by(0)", x.by(0), true);
            Edges.due("THE TEXT", x.about(3), 0);
            Edges.due("by(NONE)", x.by(-1), true);
            Edges.due("THE TEXT", x.about(3), -1);
            Edges.due("by(NONE) again", x.by(-1), true);
            Edges.due("by(NONE) of a new one", new NightCats().by(-1), true);
            NightCats y = full();
            Edges.due("by(3)", y.by(3), true);
            Edges.due("THE TEXT", y.about(3), 3);
        });
        Edges.test(8, "False for others.", () -> {
            int[] odd = {-2, 2, 3, 4, Integer.MAX_VALUE, Integer.MIN_VALUE};
            for (int text : odd) {
                Edges.still("by(" + text + ") of two", TextsEdges::busy, x -> Edges.one(x.by(text)), 0);
            }
            Edges.still("by(0) of none", NightCats::new, x -> Edges.one(x.by(0)), 0);
            Edges.still("by(4) of four", TextsEdges::full, x -> Edges.one(x.by(4)), 0);
        });
    }

    private static void blanks() {
        Edges.test(6, TOKENS, () -> {
            fine("up\n0\n;\n");
            fine("  up   0   ;  ");
            fine("up0;down1;");
            for (int sign = 0; sign < 256; sign++) {
                boolean letter = sign >= 'a' && sign <= 'z' || sign >= 'A' && sign <= 'Z';
                if (sign == 32 || sign == 10) {
                    fine("up 5" + (char) sign + ";");
                    fine("up" + (char) sign + "0;");
                } else if (sign >= '0' && sign <= '9') {
                    fault("up 5" + (char) sign + ";", 2, 3);
                    fine("cat" + (char) sign + "cold" + (char) sign + ";");
                } else if (sign != ';') {
                    fault("up 5" + (char) sign + ";", 1, 4);
                    fault("up" + (char) sign + "0;", 1, letter ? 0 : 2);
                }
            }
        });
        Edges.test(6, "blanks (32, 10) aside", () -> {
            int[] none = {9, 11, 12, 13, 0, 31, 33, 127, 160};
            for (int sign : none) {
                fault(" " + (char) sign + "up 0;", 1, 1);
                fault("up 0;" + (char) sign, 1, 5);
            }
            fine("\n\n up 0;");
            fine(" ");
            fine("\n");
            fine("");
        });
    }

    private static void letters() {
        Edges.test(6, "letters a .. z, A .. Z one behind the other (one TOKEN)", () -> {
            for (char letter : new char[] {'a', 'z', 'A', 'Z', 'm', 'M'}) {
                fault("up 0;" + letter + "up 0;", 1, 5);
                fault("up 0;up" + letter + " 0;", 1, 5);
            }
            // beside them: a sign of its own that is none
            for (char sign : new char[] {'@', '[', '`', '{'}) {
                fault("up 0;up" + sign + "0;", 1, 7);
            }
            fault("UP 0;", 1, 0);
            fault("Up 0;", 1, 0);
            fault("goes 0;upup 0;", 1, 7);
            fault("u p 0;", 1, 0);
            fault("takes cold who;", 1, 11);
            fault("takes coldwho;", 1, 6);
        });
        Edges.test(6, "one TOKEN", () -> {
            String[] words = {"takes", "goes", "house", "cat", "let", "out", "up", "down", "hour", "dream", "cold", "to", "turn", "chill", "if", "then", "else",
                "end", "or", "and", "not", "who", "taken", "place", "came", "inside"};
            for (String word : words) {
                fault("goes 1;" + word.substring(0, word.length() - 1) + "q", 1, 7);
                fault("goes " + word.substring(0, word.length() - 1) + ";", 1, 5);
                fault("goes " + word + "s;", 1, 5);
            }
            fault("goes hourinside;", 1, 5);
            fault("goes " + Due.times(295, "a"), 1, 5);
            // a word of any length that is none
            for (int n = 1; n <= 12; n++) {
                fault(Due.times(n, "z") + " 1;", 1, 0);
                fault("goes 1;" + Due.times(n, "t") + " 1;", 1, 7);
                fault("goes " + Due.times(n, "w") + ";", 1, 5);
            }
        });
    }

    private static void numbers() {
        Edges.test(6, "digits likewise (NUMBERS, 0 .. 9999)", () -> {
            fine("takes 0;");
            fine("takes 9999;");
            fault("takes 10000;", 2, 6);
            fine("takes 00009999;");
            fine("takes 0000000000000000000000000000000000001;");
            fault("takes 1 2;", 1, 8);
            fault("takes 12:;", 1, 8);
            fine("takes 12/3;");
            lawIs("12", 12);
            lawIs("0012", 12);
            lawIs("9999/101", 99);
        });
        // a number that would come around to a small one
        Edges.test(6, "(above 9999;", () -> {
            String[] wide = {"65536", "2147483647", "2147483648", "4294967295", "4294967296", "4294967297", "42949672960", "9223372036854775808",
                "18446744073709551616", "18446744073709551617", "340282366920938463463374607431768211456"};
            for (String n : wide) {
                fault("takes " + n + ";", 2, 6);
                fault("up " + n + ";", 2, 3);
                fault("hour " + n + ";", 2, 5);
            }
            fault("takes " + Due.times(293, "9") + ";", 2, 6);
            fault("takes 1" + Due.times(292, "0") + ";", 2, 6);
        });
    }

    private static void longest() {
        Edges.test(6, "(the longest)", () -> {
            String[] signs = {"<", "<=", ">", ">=", "=", "#"};
            for (String sign : signs) {
                fine("goes if 1" + sign + "2 then 1 else 2 end;");
            }
            String[][] odd = {{"< =", "11"}, {"> =", "11"}, {"=<", "10"}, {"=>", "10"}, {"==", "10"}, {"<>", "10"}, {"><", "10"}, {"<==", "11"}, {">==", "11"},
                {"<<=", "10"}, {"##", "10"}, {"<\n=", "11"}, {"!=", "9"}};
            for (String[] row : odd) {
                fault("goes if 1" + row[0] + "2 then 1 else 2 end;", 1, Integer.parseInt(row[1]));
            }
            // one sign at the very end, where another would make it longer
            fault("goes if 1<", 1, 10);
            fault("goes if 1>", 1, 10);
            fault("<", 1, 0);
            fault(">=", 1, 0);
        });
        Edges.test(6, "<= >= < > = # + - * / ( ) ;", () -> {
            for (int sign = 33; sign < 256; sign++) {
                boolean one = "<>=#+-*/();".indexOf(sign) >= 0;
                boolean word = sign >= '0' && sign <= '9' || sign >= 'a' && sign <= 'z' || sign >= 'A' && sign <= 'Z';
                if (!one && !word) {
                    fault("takes " + (char) sign + "1;", 1, 6);
                    fault("takes 1" + (char) sign + ";", 1, 7);
                    fault("takes 1;" + (char) sign, 1, 8);
                    fault("goes if 1" + (char) sign + "=2 then 1 else 1 end;", 1, 9);
                }
            }
        });
    }

    private static void clauses() {
        Edges.test(6, "{CLAUSE}, 24 at most", () -> {
            fine("");
            String full = Due.times(23, "up 0;");
            fine(full);
            fine(full + "up 0;");
            fault(full + "up 0;up 0;", 6, 120);
            fine(full + "takes 1;");
            fine("takes 1;goes 1;" + Due.times(22, "up 0;"));
            fault("takes 1;goes 1;" + Due.times(23, "up 0;"), 6, 125);
        });
        Edges.test(6, "6 the 25th CLAUSE (at its first TOKEN).", () -> {
            String full = Due.times(24, "up 0;");
            fault(full + "  \n down 6;", 6, 124);
            fault(full + "takes", 6, 120);
            fault(full + "up", 6, 120);
            fault(full + Due.times(20, "up 0;"), 6, 120);
            fine(full + "   ");
            String[] all = {"takes 1;", "goes 1;", "house 0 dream 0;", "cat 0 cold 0;", "let 0 to 0;", "out 0;", "up 0;", "down 0;", "hour 1;"};
            for (String clause : all) {
                fault(full + clause, 6, 120);
            }
        });
        Edges.test(6, "takes SUM ; or goes SUM ; (each once)", () -> {
            fine("takes 1;goes 1;");
            fine("goes 1;takes 1;");
            fault("takes 1;takes 2;", 4, 8);
            fault("goes 1;goes 2;", 4, 7);
            fault("takes 1;goes 1;takes", 4, 15);
            fault("takes 1;up 0;goes 1;goes;", 4, 20);
        });
        Edges.test(6, "4 takes, goes for the second time (at it).", () -> {
            fault("takes 1; \n takes 1;", 4, 11);
            fault("takes 1;takes takes;", 4, 8);
            fault("goes 1;out 0;goes dream;", 4, 13);
            NightCats x = new NightCats();
            Due.read(x, "takes 1;goes 1;");
            Edges.due("another text has its own", Due.read(x, "takes 1;goes 1;"), 1);
            Due.read(x, "takes 1;takes 1;");
            Edges.due("one behind a fault has its own", Due.read(x, "takes 1;goes 1;"), 2);
        });
    }

    private static void forms() {
        Edges.test(6, "house NUMBER dream NUMBER ; (door) or cat NUMBER cold NUMBER ; (PLACE) or let NUMBER to NUMBER ; or out NUMBER ; (HOUSE) or up NUMBER ; "
                + "or down NUMBER ; (CATS) or hour NUMBER ;.", () -> {
            String[] forms = {"house 1 dream 1 ;", "cat 1 cold 1 ;", "let 1 to 1 ;", "out 1 ;", "up 1 ;", "down 1 ;", "hour 1 ;", "takes 1 ;", "goes 1 ;"};
            for (String form : forms) {
                fine(form);
                String[] parts = form.split(" ");
                int place = 0;
                for (int i = 0; i < parts.length; i++) {
                    String ahead = form.substring(0, place);
                    // its end, a sign that is none, a sign and a word that can't stand there
                    fault(ahead.trim(), i == 0 ? 0 : 1, i == 0 ? -1 : ahead.trim().length());
                    fault(ahead + "&", 1, place);
                    fault(ahead + "= 5", 1, place);
                    fault(ahead + "then 5", 1, place);
                    place += parts[i].length() + 1;
                }
            }
        });
        Edges.test(6, "house NUMBER dream NUMBER ; (door)", () -> {
            fault("house cold 5;", 1, 6);
            fault("house 5 5;", 1, 8);
            fault("house 5 cold 5;", 1, 8);
            fault("house -5 dream 5;", 1, 6);
            fault("house 5 dream -5;", 1, 14);
            fault("house 5 dream 5+1;", 1, 15);
            fault("cat 5 dream 5;", 1, 6);
            fault("let 5 5;", 1, 6);
            fault("up (5);", 1, 3);
            fault("hour 5 6;", 1, 7);
            fault("hour;", 1, 4);
        });
    }

    private static void grammar() {
        Edges.test(6, "SUM: PRODUCT {+ or - PRODUCT}.", () -> {
            fine("takes 1+2-3+4-5;");
            fault("takes 1+;", 1, 8);
            fault("takes +1;", 1, 6);
            fault("takes 1++1;", 1, 8);
            fine("takes 1--1;");
            fault("takes 1-;", 1, 8);
            fine("takes " + Due.times(146, "1+") + "1;");
            fault("takes " + Due.times(147, "1+"), 1, 300);
        });
        Edges.test(6, "PRODUCT: ONE {* or / ONE}.", () -> {
            fine("takes 1*2/3*4;");
            fault("takes 1*;", 1, 8);
            fault("takes *1;", 1, 6);
            fault("takes 1*/1;", 1, 8);
            fine("takes 1*-1;");
            fault("takes 1/;", 1, 8);
        });
        Edges.test(6, "ONE: NUMBER, NAME, ( SUM ), - ONE", () -> {
            fault("takes ;", 1, 6);
            fault("takes ();", 1, 7);
            fault("takes (1;", 1, 8);
            fault("takes 1);", 1, 7);
            fault("takes -;", 1, 7);
            fault("takes -+1;", 1, 7);
            fault("takes turn 1;", 1, 12);
            fault("takes turn to 1;", 1, 11);
            fault("takes turn 1+1 to 1;", 1, 12);
            fault("takes turn 1 to;", 1, 15);
            fault("takes chill;", 1, 11);
            fine("takes chill chill 1;");
            fault("takes then;", 1, 6);
        });
        Edges.test(6, "if EITHER then SUM else SUM end", () -> {
            fault("takes if 1 then 1 else 1 end;", 1, 11);
            fault("takes if then 1 else 1 end;", 1, 9);
            fault("takes if 1<2 1 else 1 end;", 1, 13);
            fault("takes if 1<2 then else 1 end;", 1, 18);
            fault("takes if 1<2 then 1 end;", 1, 20);
            fault("takes if 1<2 then 1 else end;", 1, 25);
            fault("takes if 1<2 then 1 else 1;", 1, 26);
            fault("takes if 1<2 or then 1 else 1 end;", 1, 16);
            fault("takes if 1<2 and then 1 else 1 end;", 1, 17);
            fault("takes if or 1<2 then 1 else 1 end;", 1, 9);
            fault("takes if (1<2) then 1 else 1 end;", 1, 11);
            fault("takes if not then 1 else 1 end;", 1, 13);
            fault("takes if 1 not <2 then 1 else 1 end;", 1, 11);
            fault("takes if 1<2<3 then 1 else 1 end;", 1, 12);
            fault("takes 1<2;", 1, 7);
            fault("takes not 1;", 1, 6);
            fine("takes if not not 1<2 and not 1=2 or 3#4 then 1 else 1 end;");
        });
        Edges.test(6, "ASK: not ASK, or SUM one of < <= > >= = # (unlike) SUM.", () -> {
            String[] none = {"takes", "goes", "house", "cat", "let", "out", "up", "down", "hour", "dream", "cold", "to", "turn", "chill", "if", "else", "end", "not",
                "who", "taken", "place", "came", "inside", "<", "=", "(", ")", ";", "7", "x"};
            for (String word : none) {
                fault("takes if 1<2 " + word + " 1<2 then 1 else 1 end;", 1, 13);
                fault("takes if 1<2 and 1<2 " + word + " 1<2 then 1 else 1 end;", 1, 21);
                fault("takes if 1<2 then 1 " + word + " 1 else 1 end;", 1, word.equals("else") ? 27 : 20);
            }
        });
    }

    private static void places() {
        Edges.test(7, FAULTS, () -> {
            fault("up 6;up 7;", 2, 3);
            fault("up 5;up 7;&", 2, 8);
            fault("goes dream;up 6;", 5, 5);
            fault("up 6;goes dream;", 2, 3);
            fault("&up 6;", 1, 0);
            fault("up 6&", 2, 3);
        });
        Edges.test(7, "at the TOKEN's first byte (of the end at the length)", () -> {
            fault("   up   6  ;", 2, 8);
            fault("  \n  then;", 1, 5);
            fault("up", 1, 2);
            fault("up   ", 1, 5);
            fault("up 0", 1, 4);
            fault("up 0\n", 1, 5);
            fault("takes 1+", 1, 8);
            fault("up 0000000006;", 2, 3);
            fault("up 0  ==;", 1, 6);
            fault("up 0  <=;", 1, 6);
        });
        Edges.test(7, "1 it can't stand there, or is none", () -> {
            fault("x", 1, 0);
            fault("5", 1, 0);
            fault(";", 1, 0);
            fault("up 0;;", 1, 5);
            fault("dream 5;", 1, 0);
            fault("end;", 1, 0);
            fault("place;", 1, 0);
            fault("takes \u0000;", 1, 6);
            fault("takes \u00ff;", 1, 6);
            fault("takes \u0001;", 1, 6);
            fault("takes \u0002;", 1, 6);
            fault("takes 1\u0003;", 1, 7);
            fault("takes 1\u0005;", 1, 7);
        });
    }

    private static void least() {
        Edges.test(7, "of one the least", () -> {
            String full = "takes 1;goes 1;" + Due.times(22, "up 0;");
            // the 25th CLAUSE and: none that can stand there, a law for the second time
            fault(full + ";", 1, 125);
            fault(full + "then", 1, 125);
            fault(full + "&", 1, 125);
            fault(full + "99999;", 1, 125);
            fault(full + "takes 1;", 4, 125);
            fault(full + "goes 1;", 4, 125);
            fault(full + "hour 1;", 6, 125);
            // what can't stand there and: above 9999, a law for the second time, a NAME of the other CLAUSE, the 9th that is open
            fault("takes 1 10000;", 1, 8);
            fault("up 0 10000;", 1, 5);
            fault("takes takes 1;", 1, 6);
            fault("takes 1 takes 1;", 1, 8);
            fault("goes 1 dream;", 1, 7);
            fault("up dream;", 1, 3);
            fault("goes came came;", 5, 5);
            fault("goes " + Due.times(8, "(") + "1(;", 1, 14);
            fault("goes " + Due.times(8, "(") + "1 if;", 1, 15);
            fault("goes " + Due.times(8, "(") + "not;", 1, 13);
            fault("goes if " + Due.times(7, "not ") + "1 not;", 1, 38);
        });
    }

    private static void notTold() {
        Edges.test(7, NOT_TOLD, () -> {
            told("takes ", 0, 9999, "");
            told("goes 1+", 0, 9999, "");
            told("goes if 1<", 0, 9999, " then 1 else 1 end");
            told("house ", 0, 9, " dream 1");
            told("house 1 dream ", 0, 999, "");
            told("cat ", 0, 9, " cold 1");
            told("cat 1 cold ", 0, 9, "");
            told("let ", 0, 5, " to 1");
            told("let 1 to ", 0, 5, "");
            told("out ", 0, 5, "");
            told("up ", 0, 5, "");
            told("down ", 0, 5, "");
            told("hour ", 1, 60, "");
        });
        Edges.test(7, "HOURS 1 .. 60", () -> {
            fault("hour 0;", 2, 5);
            fault("hour 00;", 2, 5);
            fine("hour 1;");
            fine("hour 60;");
            fault("hour 61;", 2, 5);
            fault("hour 9999;", 2, 5);
        });
    }

    private static void told(String ahead, int least, int most, String behind) {
        fine(ahead + least + behind + ";");
        fine(ahead + most + behind + ";");
        fault(ahead + (most + 1) + behind + ";", 2, ahead.length());
        fault(ahead + "10000" + behind + ";", 2, ahead.length());
        // at it, whatever would come
        fault(ahead + (most + 1), 2, ahead.length());
        if (least > 0) {
            fault(ahead + (least - 1) + behind + ";", 2, ahead.length());
        }
    }

    private static void tooDeep() {
        Edges.test(7, TOO_DEEP, () -> {
            String[][] rows = {{"(", "1", ")"}, {"turn 1 to ", "1", ""}, {"turn ", "1", " to 1"}, {"chill ", "1", ""}, {"-", "1", ""},
                {"if ", "1", "<1 then 1 else 1 end"}, {"if 1<1 then ", "1", " else 1 end"}, {"if 1<1 then 1 else ", "1", " end"}};
            for (String[] row : rows) {
                fine("takes " + Due.times(8, row[0]) + row[1] + Due.times(8, row[2]) + ";");
                fault("takes " + Due.times(9, row[0]) + row[1] + Due.times(9, row[2]) + ";", 3, 6 + 8 * row[0].length());
                fault("takes " + Due.times(9, row[0]), 3, 6 + 8 * row[0].length());
            }
            fine("takes if " + Due.times(7, "not ") + "1<1 then 1 else 1 end;");
            fault("takes if " + Due.times(8, "not ") + "1<1 then 1 else 1 end;", 3, 37);
            fault("takes if " + Due.times(9, "not ") + "1<1 then 1 else 1 end;", 3, 37);
        });
        Edges.test(7, "3 the 9th of ( not turn chill if and - (of one ONE)", () -> {
            // each of them as the 8th, within seven of ( and if
            String ahead = "takes ((((((if ";
            String behind = "1<1 then 1 else 1 end" + Due.times(6, ")") + ";";
            fine(ahead + behind);
            fine(ahead + "-" + behind);
            fine(ahead + "chill " + behind);
            fine(ahead + "not " + behind);
            fine(ahead + "turn 1 to " + behind);
            for (String eighth : OPENERS) {
                for (String ninth : OPENERS) {
                    boolean asked = ninth.startsWith("not") && !eighth.startsWith("not") && !eighth.startsWith("if");
                    int fault = asked ? 1 : 3;
                    fault(ahead + eighth + ninth, fault, ahead.length() + eighth.length());
                }
            }
        });
        Edges.test(7, "and - (of one ONE)", () -> {
            fine("takes " + Due.times(8, "(") + "1-1-1" + Due.times(8, ")") + ";");
            fault("takes " + Due.times(8, "(") + "1--1" + Due.times(8, ")") + ";", 3, 16);
            fine("takes " + Due.times(20, "1-") + "1;");
        });
    }

    private static void closed() {
        Edges.test(7, "that are open around one another", () -> {
            // twelve behind one another, none open around another
            fine("takes " + Due.times(12, "(1)+") + "1;");
            fine("takes " + Due.times(12, "-1+") + "1;");
            fine("takes " + Due.times(12, "chill 1+") + "1;");
            fine("takes " + Due.times(12, "turn 1 to 1+") + "1;");
            fine("takes " + Due.times(9, "if 1<1 then 1 else 1 end+") + "1;");
            fine("takes if " + Due.times(12, "not 1<1 and ") + "1<1 then 1 else 1 end;");
            fine("takes if " + Due.times(12, "not 1<1 or ") + "1<1 then 1 else 1 end;");
        });
        String seven = Due.times(7, "(");
        String close = Due.times(7, ")");
        Edges.test(7, "(at it; turn till its second is whole)", () -> {
            fine("takes " + seven + "turn 1 to 1+(1)" + close + ";");
            fine("takes " + seven + "turn 1 to 1*-1" + close + ";");
            fault("takes " + seven + "turn (1) to 1" + close + ";", 3, 18);
            fault("takes " + seven + "turn 1 to (1)" + close + ";", 3, 23);
            fault("takes " + seven + "turn -1 to 1" + close + ";", 3, 18);
            fine("takes " + Due.times(6, "(") + "turn (1) to (1)+(1)" + Due.times(6, ")") + ";");
        });
        Edges.test(7, "3 the 9th", () -> {
            // - and chill till their one ONE is whole, ( till ), if till end, not till its ASK is whole
            fine("takes " + seven + "-1*(1)" + close + ";");
            fine("takes " + seven + "chill 1*(1)" + close + ";");
            fine("takes " + seven + "(1)*(1)" + close + ";");
            fine("takes " + seven + "if 1<1 then 1 else 1 end*(1)" + close + ";");
            fault("takes " + seven + "if 1<1 then 1 else (1) end" + close + ";", 3, 32);
            fault("takes " + seven + "if 1<1 then (1) else 1 end" + close + ";", 3, 25);
            fault("takes " + seven + "if 1<(1) then 1 else 1 end" + close + ";", 3, 18);
            String six = Due.times(6, "(");
            String ends = " end" + Due.times(6, ")") + ";";
            fine("takes " + six + "if not 1<1 or 1<(1) then (1) else (1)" + ends);
            fine("takes " + six + "if not 1<1 and (1)<1 then 1 else 1" + ends);
            fault("takes " + six + "if not 1<(1) then 1 else 1" + ends, 3, 21);
            fault("takes " + six + "if not (1)<1 then 1 else 1" + ends, 3, 19);
        });
    }

    private static void laws() {
        Edges.test(7, "5 a NAME that isn't of that CLAUSE (at it).", () -> {
            fault("takes inside;", 5, 6);
            fault("goes dream;", 5, 5);
            fault("goes came;", 5, 5);
            fault("goes 1+( dream);", 5, 9);
            fault("goes if came", 5, 8);
            fault("takes dream;goes dream;", 5, 17);
            fault("goes inside;takes inside;", 5, 18);
            fault("goes chill dream;", 5, 11);
        });
        Edges.test(6, "in both; dream, came (of the HOUSE) in takes; inside (1, if it is in a HOUSE, else 0) in goes.", () -> {
            for (String name : new String[] {"hour", "who", "cold", "taken", "place"}) {
                fine("takes " + name + ";goes " + name + ";");
            }
            fine("takes dream+came;goes inside;");
        });
    }

    private static void names() {
        Edges.test(18, "NAMES: hour, who (the CAT), cold, taken (its TAKEN), place (its PLACE as it is; in a HOUSE that of its door) in both", () -> {
            NightCats x = new NightCats();
            for (int i = 0; i < 6; i++) {
                x.house(i, 10 * i);
                x.cat(9 - i, i + 3);
            }
            name(x, "who", 0, 0, 0);
            name(x, "who", 5, 0, 5);
            name(x, "hour", 5, 0, 0);
            name(x, "cold", 5, 0, 8);
            name(x, "taken", 5, 0, 0);
            name(x, "place", 0, 0, 9);
            name(x, "place", 5, 3, 4);
            x.let(5, 4);
            name(x, "place", 5, 0, 4);
            x.hour(2);
            name(x, "hour", 5, 0, 2);
            name(x, "taken", 5, 0, 16);
            name(x, "place", 5, 0, 4);
        });
        Edges.test(18, "dream, came (of the HOUSE) in takes", () -> {
            NightCats x = furnished();
            x.house(9, 99);
            nameInTakes(x, "dream", 1, 0, 30);
            nameInTakes(x, "dream", 1, 1, 99);
            nameInTakes(x, "came", 1, 0, 1);
            nameInTakes(x, "came", 1, 1, 0);
            nameInTakes(x, "came", 0, 0, 1);
        });
        Edges.test(19, "inside (1, if it is in a HOUSE, else 0) in goes", () -> {
            NightCats x = furnished();
            Edges.rule(x, "goes inside;");
            Edges.due("one without", x.goes(0), 0);
            Edges.due("one in house 0", x.goes(1), 1);
            x.out(0);
            Edges.due("once out", x.goes(1), 0);
        });
    }

    private static void name(NightCats x, String name, int cat, int house, int want) {
        nameInTakes(x, name, cat, house, want);
        x.image();
        Edges.rule(x, "goes " + name + ";");
        Edges.due("goes " + name + " of " + cat, x.goes(cat), want);
        x.back();
    }

    private static void nameInTakes(NightCats x, String name, int cat, int house, int want) {
        x.image();
        Edges.rule(x, "takes " + name + ";");
        Edges.due("takes " + name + " of " + cat + " in " + house, x.takes(cat, house), want);
        x.back();
    }

    private static void steps() {
        Edges.test(19, STEPS, () -> {
            lawIs("10-3-2", 5);
            lawIs("10-(3-2)", 9);
            lawIs("48/6/2", 4);
            lawIs("48/6*2", 16);
            lawIs("7*3/2", 10);
            lawIs("7/2*3", 9);
            lawIs("2+3*4", 14);
            lawIs("2*3+4", 10);
        });
        Edges.test(19, "/ cuts towards 0, by 0 it is 0", () -> {
            lawIs("7/2", 3);
            lawIs("-7/2", -3);
            lawIs("7/-2", -3);
            lawIs("-7/-2", 3);
            lawIs("1/2", 0);
            lawIs("-1/2", 0);
            lawIs("1/-2", 0);
            lawIs("0/5", 0);
            lawIs("5/0", 0);
            lawIs("-5/0", 0);
            lawIs("0/0", 0);
            lawIs("5/(3-3)+4", 4);
            lawIs("5/(1/2)+4", 4);
            lawIs("9/1", 9);
            lawIs("9/-1", -9);
        });
        Edges.test(19, "what is above 1000000 (below the same less) is that, at each step", () -> {
            // 999999 and 1000000 are as they are, 1000001 is 1000000
            lawIs("9999*100+99-9999*100", 99);
            lawIs("9999*100+99-9999*100-50", 49);
            lawIs("9999*100+100-9999*100-50", 50);
            lawIs("9999*100+101-9999*100-50", 50);
            lawIs("-9999*100-99+9999*100+50", -49);
            lawIs("-9999*100-100+9999*100+50", -50);
            lawIs("-9999*100-101+9999*100+50", -50);
            // of sums, at each step
            lawIs("9999*100+9999*100-9999*100-50", 50);
            lawIs("-9999*100-9999*100+9999*100+50", -50);
            lawIs("9999*100-1+9999-9999*100-50", 50);
            // of products, at each step
            lawIs("9999*9999/9999-50", 50);
            lawIs("-9999*9999/9999+50", -50);
            lawIs("9999*-9999/9999+50", -50);
            lawIs("-9999*-9999/9999-50", 50);
            lawIs("9999*9999*9999/9999-50", 50);
        });
        // 1000000 * 1000000 is -727379968 where it comes around at 32 bits
        Edges.test(19, "what is above 1000000", () -> {
            lawIs("9999*9999*(9999*9999)/9999-50", 50);
            lawIs("-(9999*9999)*(9999*9999)/9999+50", -50);
            lawIs("-(9999*9999)*-(9999*9999)/9999-50", 50);
            lawIs("9999*9999*(9999*9999)*(9999*9999)/9999-50", 50);
            lawIs("9999*9999+9999*9999-9999*100-50", 50);
            lawIs("-(9999*9999)-9999*9999+9999*100+50", -50);
        });
    }

    private static void ones() {
        Edges.test(19, TURN, () -> {
            for (int a = 0; a < 10; a++) {
                for (int b = 0; b < 10; b++) {
                    int up = 0;
                    while ((a + up) % 10 != b) {
                        up++;
                    }
                    lawIs("turn " + a + " to " + b, up);
                }
            }
        });
        Edges.test(19, "both taken by 10, signs aside", () -> {
            lawIs("turn 10 to 20", 0);
            lawIs("turn 19 to 20", 1);
            lawIs("turn 20 to 19", 9);
            lawIs("turn 9999 to 0", 1);
            lawIs("turn -1 to 1", 0);
            lawIs("turn 1 to -1", 0);
            lawIs("turn -9 to 0", 1);
            lawIs("turn 0 to -9", 9);
            lawIs("turn -13 to -25", 2);
            lawIs("turn -25 to -13", 8);
            lawIs("turn (9999*9999) to 7", 7);
            lawIs("turn 7 to -(9999*9999)", 3);
        });
        Edges.test(19, "chill ONE (COLD of the CAT of that number; 0 for others)", () -> {
            lawIs("chill 0", 3);
            lawIs("chill 1", 8);
            lawIs("chill 2", 0);
            lawIs("chill -1", 0);
            lawIs("chill 5", 0);
            lawIs("chill 6", 0);
            lawIs("chill 9999", 0);
            lawIs("chill (9999*9999)", 0);
            lawIs("chill -(9999*9999)", 0);
            NightCats x = new NightCats();
            for (int i = 0; i < 6; i++) {
                x.cat(0, 9 - i);
            }
            Edges.rule(x, "goes chill (5-who)+chill 6;");
            for (int i = 0; i < 6; i++) {
                Edges.due("chill " + (5 - i), x.goes(i), 4 + i);
            }
        });
        Edges.test(19, "- ONE", () -> {
            lawIs("-4", -4);
            lawIs("--4", 4);
            lawIs("-0", 0);
            lawIs("-2*3", -6);
            lawIs("-(2+3)", -5);
            lawIs("-chill 0", -3);
            lawIs("chill 0-1", 2);
        });
    }

    private static void asks() {
        Edges.test(19, "ASK: not ASK, or SUM one of < <= > >= = # (unlike) SUM.", () -> {
            String[] signs = {"<", "<=", ">", ">=", "=", "#"};
            int[][] rows = {{1, 1, 0, 0, 0, 1}, {0, 1, 0, 1, 1, 0}, {0, 0, 1, 1, 0, 1}};
            for (int i = 0; i < 6; i++) {
                for (int right = 0; right < 3; right++) {
                    int[] row = rows[2 - right];
                    lawIs("if 1" + signs[i] + right + " then 1 else 0 end", row[i]);
                    lawIs("if not 1" + signs[i] + right + " then 1 else 0 end", 1 - row[i]);
                    lawIs("if not not 1" + signs[i] + right + " then 1 else 0 end", row[i]);
                }
            }
            lawIs("if -1<0 then 1 else 0 end", 1);
            lawIs("if 9999*9999=9999*9998 then 1 else 0 end", 1);
            lawIs("if 9999*9999>-9999*9999 then 1 else 0 end", 1);
        });
        Edges.test(19, "EITHER: BOTH {or BOTH}.", () -> either());
        Edges.test(19, "BOTH: ASK {and ASK}.", () -> both());
        Edges.test(19, "of if just the SUM that is chosen is asked", () -> {
            lawIs("if 1<2 then 5 else 6 end", 5);
            lawIs("if 2<1 then 5 else 6 end", 6);
            lawIs("if 1<2 then if 2<1 then 5 else 6 end else 7 end+10", 16);
            lawIs("if 2<1 then if 2<1 then 5 else 6 end else 7 end+10", 17);
            lawIs("10+if 1<2 then 5 else 6 end", 15);
            lawIs("10+if 2<1 then 5 else 6 end", 16);
            lawIs("10-2*if 1<2 then if 1<2 then 3 else 4 end else 5 end-1", 3);
            lawIs("10-2*if 1<2 then if 2<1 then 3 else 4 end else 5 end-1", 1);
            lawIs("if 1+if 1<2 then 1 else 0 end=2 then 5 else 6 end", 5);
            lawIs("10+if 2<1 then 5 else if 2<1 then 6 else 7 end*2 end", 24);
        });
    }

    private static final String[] YES_NO = {"1=0", "1=1"};

    private static void either() {
        for (int bits = 0; bits < 8; bits++) {
            String a = YES_NO[bits & 1];
            String b = YES_NO[bits >> 1 & 1];
            String c = YES_NO[bits >> 2];
            lawIs("if " + a + " or " + b + " or " + c + " then 1 else 0 end", bits != 0 ? 1 : 0);
            lawIs("if " + a + " or " + b + " and " + c + " then 1 else 0 end", (bits & 1) == 1 || bits >> 1 == 3 ? 1 : 0);
            lawIs("if not " + a + " or " + b + " then 1 else 0 end", (bits & 1) == 0 || (bits & 2) == 2 ? 1 : 0);
        }
    }

    private static void both() {
        for (int bits = 0; bits < 8; bits++) {
            String a = YES_NO[bits & 1];
            String b = YES_NO[bits >> 1 & 1];
            String c = YES_NO[bits >> 2];
            lawIs("if " + a + " and " + b + " and " + c + " then 1 else 0 end", bits == 7 ? 1 : 0);
            lawIs("if " + a + " and " + b + " or " + c + " then 1 else 0 end", (bits & 3) == 3 || bits >= 4 ? 1 : 0);
            lawIs("if not " + a + " and " + b + " then 1 else 0 end", (bits & 3) == 2 ? 1 : 0);
        }
    }

    private static void namesAsked() {
        Edges.test(19, "or and and look at both sides always", () -> {
            lawIs("if 1=1 or 1/0=0 then 5 else 6 end", 5);
            lawIs("if 1=0 and 1/0=0 then 5 else 6 end", 6);
            lawIs("if 1=0 or 1/0=0 then 5 else 6 end", 5);
        });
    }

    private static void limits() {
        Edges.test(18, RULES, () -> {
            int[][] rows = {{-9999, 0}, {-1, 0}, {0, 0}, {1, 1}, {98, 98}, {99, 99}, {100, 99}, {9999, 99}};
            for (int[] row : rows) {
                NightCats x = furnished();
                Edges.due("without a text: COLD", x.takes(1, 0), 8);
                Due.read(x, "takes " + row[0] + ";");
                Edges.due("at first none rules", x.about(3), -1);
                Edges.due("one that doesn't rule", x.takes(1, 0), 8);
                x.by(0);
                Edges.due("takes " + row[0], x.takes(1, 0), row[1]);
            }
        });
        Edges.test(19, "goes: -99 at least, 99 at most; without: 0", () -> {
            int[][] rows = {{-9999, -99}, {-100, -99}, {-99, -99}, {-98, -98}, {0, 0}, {98, 98}, {99, 99}, {100, 99}, {9999, 99}};
            for (int[] row : rows) {
                lawIs(String.valueOf(row[0]), row[1]);
            }
            Edges.due("without a text", furnished().goes(1), 0);
        });
        Edges.test(18, "without: COLD", () -> {
            NightCats x = furnished();
            Edges.rule(x, "goes 5;up 0;");
            Edges.due("a text without takes", x.takes(0, 0), 3);
            Edges.due("its goes", x.goes(0), 5);
            Edges.rule(x, "");
            Edges.due("an empty text", x.takes(1, 0), 8);
            Edges.due("an empty text", x.goes(1), 0);
            Edges.rule(x, "takes 5;");
            Edges.due("a text without goes", x.goes(1), 0);
            Edges.due("its takes", x.takes(1, 0), 5);
            NightCats cold = new NightCats();
            cold.house(0, 9);
            cold.cat(0, 0);
            cold.cat(0, 9);
            Edges.due("COLD 0", cold.takes(0, 0), 0);
            Edges.due("COLD 9", cold.takes(1, 0), 9);
        });
    }

    private static void played() {
        Edges.test(13, PLAYED, () -> {
            NightCats x = new NightCats();
            Due.read(x, "house 2 dream 9;takes 5;cat 2 cold 1;let 0 to 0;goes 1;hour 2;out 0;up 0;down 0;up 0;");
            Edges.due("all", x.played(0), -1);
            Edges.due("no law of it ruled", x.of(0, 3), 2);
            Edges.due("place", x.of(0, 0), 3);
            Edges.due("again: let, the fourth, can't be", x.played(0), 3);
            Edges.due("what was done stays: houses", x.about(0), 2);
            Edges.due("what was done stays: cats", x.about(1), 2);
            Edges.due("nothing behind it is done", x.is(0), 2);
        });
        Edges.test(13, "one that can't be ends it", () -> {
            String[] clauses = {"let 0 to 0;", "let 1 to 1;", "out 0;", "up 0;", "down 0;", "up 5;", "let 5 to 0;", "let 1 to 5;", "out 5;"};
            for (String clause : clauses) {
                Edges.still("played: " + clause, () -> {
                    NightCats x = new NightCats();
                    Due.read(x, clause + "hour 1;");
                    return x;
                }, x -> x.played(0), 0);
            }
            NightCats x = furnished();
            Due.read(x, "takes 1;goes 1;up 1;hour 1;");
            Edges.due("laws count", x.played(0), 2);
            Edges.due("no hour passes", x.is(0), 0);
        });
        Edges.test(13, "NONE: all is done; else the number of the CLAUSE that can't be.", () -> {
            NightCats x = new NightCats();
            Due.read(x, Due.times(7, "house 0 dream 0;"));
            Due.read(x, Due.times(7, "cat 0 cold 0;"));
            Due.read(x, Due.times(24, "up 5;"));
            Due.read(x, "");
            Edges.due("an empty text", x.played(3), -1);
            Edges.due("no such cat", x.played(2), 0);
            Edges.due("the seventh house", x.played(0), 6);
            Edges.due("the seventh cat", x.played(1), 6);
            Edges.due("24 clauses", x.played(2), -1);
            Edges.due("place", x.of(5, 0), 4);
            Edges.due("houses", x.about(0), 6);
            Edges.due("the next house", x.played(0), 0);
        });
        Edges.test(13, "-2 for others.", () -> {
            int[] odd = {-1, -2, 2, 3, 4, Integer.MAX_VALUE, Integer.MIN_VALUE};
            for (int text : odd) {
                Edges.still("played(" + text + ") of two", TextsEdges::busy, x -> x.played(text), -2);
            }
            Edges.still("played(0) of none", NightCats::new, x -> x.played(0), -2);
            Edges.still("played(4) of four", TextsEdges::full, x -> x.played(4), -2);
        });
        Edges.test(13, "else the number of the CLAUSE that can't be", () -> {
            NightCats x = new NightCats();
            x.cat(0, 0);
            Due.read(x, Due.times(23, "up 0;") + "up 1;");
            Edges.due("the last of 24", x.played(0), 23);
            Edges.due("23 are done", x.of(0, 0), 3);
        });
    }

    private static void playedHours() {
        Edges.test(13, "(of so many HOURS those that can pass do)", () -> {
            NightCats x = new NightCats();
            Due.read(x, Due.times(10, "hour 60;"));
            Due.read(x, "up 0;hour 10;hour 3;up 0;");
            for (int i = 0; i < 16; i++) {
                Edges.due("600 hours", x.played(0), -1);
            }
            x.cat(0, 1);
            Edges.due("399 of 600, the last of them of the seventh", x.played(0), 6);
            Edges.due("9999", x.is(0), 9999);
            for (int i = 0; i < 13; i++) {
                x.undo();
            }
            Edges.due("9986", x.is(0), 9986);
            Edges.due("13 of 13", x.played(1), -1);
            Edges.due("9999", x.is(0), 9999);
            for (int i = 0; i < 13; i++) {
                x.undo();
            }
            Edges.due("the last that went and 12 hours are back", x.is(0), 9987);
            Edges.due("12 of 13: the third clause can't be", x.played(1), 2);
            Edges.due("9999", x.is(0), 9999);
            Edges.due("the first can, the second can't", x.played(1), 1);
        });
        Edges.test(13, "of so many HOURS those that can pass do", () -> {
            for (int left = 0; left <= 4; left++) {
                NightCats x = new NightCats();
                Due.read(x, "takes 9;hour 3;cat 0 cold 0;");
                for (int i = 0; i < 166; i++) {
                    x.hour(60);
                }
                x.hour(39 - left);
                Edges.due("3 of " + left, x.played(0), left < 3 ? 1 : -1);
                Edges.due("hour", x.is(0), 9999 - left + Math.min(left, 3));
                Edges.due("what comes behind", x.about(1), left < 3 ? 0 : 1);
                int steps = x.about(4);
                Edges.due("each that passed is a step", x.undo(), steps - 1);
                Edges.due("hour", x.is(0), 9998 - left + Math.min(left, 3));
            }
        });
    }

    private static void textsOfThemselves() {
        Edges.test(4, "if there would be more than 300", () -> {
            for (int has = 270; has <= 300; has++) {
                NightCats x = new NightCats();
                for (int i = 0; i < 15; i++) {
                    x.feed(0, 0, 0, 0, 0);
                }
                x.end(has);
                Edges.due("feed behind " + has, x.feed(0, 0, 0, 0, 0), has + 20 > 300 ? -1 : has + 20);
                Edges.due("bytes", x.about(9), has + 20 > 300 ? has : has + 20);
            }
        });
        Edges.test(5, "or n is below 0", () -> {
            Edges.still("end(-1)", TextsEdges::busy, x -> x.end(-1), -1);
            Edges.still("end(-1) of none", NightCats::new, x -> x.end(-1), -1);
            Edges.still("end of the least", TextsEdges::busy, x -> x.end(Integer.MIN_VALUE), -1);
        });
        Edges.test(7, "and ahead of any", () -> {
            Edges.still("fault(0)", NightCats::new, x -> x.fault(0), -1);
            Edges.still("fault(1)", NightCats::new, x -> x.fault(1), -1);
        });
        Edges.test(7, "0 its FAULT (0 without), 1 its place (NONE without)", () -> {
            NightCats x = new NightCats();
            x.text();
            Edges.due("of an empty text", x.fault(0), 0);
            Edges.due("of an empty text", x.fault(1), -1);
        });
        Edges.test(6, "TEXTS 0 .. 3", () -> {
            NightCats x = new NightCats();
            for (int i = 0; i < 4; i++) {
                Edges.due("text", Due.read(x, "takes " + (10 + i) + ";goes " + (20 + i) + ";"), i);
            }
            x.house(1, 1);
            x.cat(1, 1);
            for (int i = 3; i >= 0; i--) {
                Edges.due("by", x.by(i), true);
                Edges.due("takes", x.takes(0, 0), 10 + i);
                Edges.due("goes", x.goes(0), 20 + i);
            }
        });
    }

    private static void rulesOfThemselves() {
        Edges.test(8, "THE TEXT (told; at first none) rules.", () -> {
            NightCats x = new NightCats();
            Edges.due("at first none", x.about(3), -1);
            Due.read(x, "takes 7;");
            Edges.due("none by being read", x.about(3), -1);
        });
        Edges.test(18, "takes: 0 at least, 99 at most", () -> {
            String[][] rows = {{"-1", "0"}, {"0", "0"}, {"99", "99"}, {"100", "99"}, {"9999*9999", "99"}, {"-9999*9999", "0"}};
            for (String[] row : rows) {
                NightCats x = furnished();
                Edges.rule(x, "takes " + row[0] + ";");
                Edges.due("takes " + row[0], x.takes(1, 0), Integer.parseInt(row[1]));
            }
        });
        Edges.test(12, "takes: 0 at least, 99 at most", () -> {
            NightCats x = new NightCats();
            x.house(4, 500);
            x.cat(4, 1);
            x.let(0, 0);
            Edges.rule(x, "takes if hour<1 then 0-50 else if hour<2 then 100 else 99 end end;");
            Edges.due("no dream comes back", x.hour(1), 0);
            Edges.due("of 100", x.hour(1), 99);
            Edges.due("of 99", x.hour(1), 99);
        });
        Edges.test(19, "by 0 it is 0", () -> {
            lawIs("1/0", 0);
            lawIs("7+1/0", 7);
            lawIs("(9999*9999)/0", 0);
            lawIs("5/inside", 5);
            lawIs("5/(inside-1)", 0);
            lawIs("0/0+3", 3);
        });
        Edges.test(13, "its number among all CLAUSES (from 0); what was done stays", () -> {
            for (int ahead = 0; ahead < 23; ahead++) {
                NightCats x = new NightCats();
                x.cat(0, 0);
                Due.read(x, "goes 1;" + Due.times(ahead, "up 0;") + "out 0;");
                Edges.due("number", x.played(0), ahead + 1);
                Edges.due("what was done", x.of(0, 0), ahead % 10);
                Edges.due("steps", x.about(4), ahead);
            }
        });
        Edges.test(13, "its CLAUSES but laws", () -> {
            NightCats x = new NightCats();
            Due.read(x, "takes 1;goes 1;");
            Edges.due("laws alone", x.played(0), -1);
            Edges.due("none rules by it", x.about(3), -1);
            Edges.due("no step", x.about(4), 0);
        });
    }
}
