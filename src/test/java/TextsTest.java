/** Promises 4 to 8, and part II: the tape, texts, their faults, what laws reckon. */
public final class TextsTest {
    public static void main(String[] args) {
        promise4();
        promise5();
        promise6();
        promise7();
        promise8();
        tokens();
        cantStand();
        notTold();
        tooDeep();
        otherFaults();
        reckoning();
        names();
        Due.close();
    }

    private static void promise4() {
        NightCats x = new NightCats();
        Due.due("feed", x.feed(0, 0, 0, 0, 0), 20);
        for (int i = 2; i <= 15; i++) {
            Due.due("feed " + i, x.feed(-1, 2, 3, 4, 5), 20 * i);
        }
        Due.due("feed 16", x.feed(0, 0, 0, 0, 0), -1);
        Due.due("none came", x.about(9), 300);
        x.end(281);
        Due.due("feed to 301", x.feed(0, 0, 0, 0, 0), -1);
        Due.due("none came", x.about(9), 281);
        x.end(280);
        Due.due("feed to 300", x.feed(0, 0, 0, 0, 0), 300);
        // the highest byte of a first: "up 0;" and a sign that is no token
        x.end(0);
        x.feed(0x75702030, 0x3bff0000, 0, 0, 0);
        x.text();
        Due.due("0xff is no token", x.fault(0), 1);
        Due.due("0xff stands at 5", x.fault(1), 5);
        x.end(0);
        x.feed(0x6f757420, 0x303b6f75, 0x7420303b, 0x6f757420, 0x303b2020);
        Due.due("three clauses", x.text(), 0);
        // feeding goes on behind what stays
        x.feed(0x75702030, 0x3b000000, 0, 0, 0);
        x.end(5);
        x.feed(0x646f776e, 0x20313b20, 0x20202020, 0x20202020, 0x20202020);
        Due.due("two clauses", x.text(), 1);
        x.cat(0, 0);
        Due.due("the second can't be", x.played(1), 1);
    }

    private static void promise5() {
        NightCats x = new NightCats();
        Due.due("end(0) of none", x.end(0), 0);
        Due.due("end(1) of none", x.end(1), -1);
        x.feed(0, 0, 0, 0, 0);
        Due.due("end(21) of 20", x.end(21), -1);
        Due.due("end(-1)", x.end(-1), -1);
        Due.due("end(least)", x.end(Integer.MIN_VALUE), -1);
        Due.due("nothing is done", x.about(9), 20);
        Due.due("end(20)", x.end(20), 20);
        Due.due("end(7)", x.end(7), 7);
        Due.due("7 are left", x.about(9), 7);
        Due.due("end(8) of 7", x.end(8), -1);
    }

    private static void promise6() {
        NightCats x = new NightCats();
        Due.due("an empty tape is a text", x.text(), 0);
        Due.due("all of none is done", x.played(0), -1);
        Due.due("text 1", Due.read(x, "takes 1;"), 1);
        Due.due("the tape is empty then", x.about(9), 0);
        Due.due("a fault", Due.read(x, "takes;"), -1);
        Due.due("no text by it", x.about(2), 2);
        Due.due("the tape is empty behind a fault", x.about(9), 0);
        Due.due("text 2", Due.read(x, "goes 1;"), 2);
        Due.due("text 3", Due.read(x, " \n "), 3);
        Due.due("a fifth", Due.read(x, "goes 2;"), -1);
        Due.due("the tape stays", x.about(9), 7);
        Due.due("no fault by it", x.fault(0), 0);
        Due.due("a fifth with a fault", Due.read(x, "goes;"), -1);
        Due.due("the tape stays", x.about(9), 5);
        Due.due("that one was not read", x.fault(0), 0);
        Due.due("texts", x.about(2), 4);
        String full = Due.times(25, "   hour 1 ;\n").substring(0, 288) + "hour 2;     ";
        Due.fault(full, 6, 288);
        Due.fault(full.substring(12), 0, -1);
    }

    private static void promise7() {
        NightCats x = new NightCats();
        for (int what = -2; what < 4; what++) {
            Due.due("fault(" + what + ") ahead of any", x.fault(what), -1);
        }
        Due.read(x, "cat 5 cold 12;");
        Due.due("fault", x.fault(0), 2);
        Due.due("place", x.fault(1), 11);
        Due.due("fault(2)", x.fault(2), -1);
        Due.due("fault(-1)", x.fault(-1), -1);
        Due.read(x, "cat 5 cold 1;");
        Due.due("without", x.fault(0), 0);
        Due.due("place without", x.fault(1), -1);
    }

    private static void promise8() {
        NightCats x = new NightCats();
        Due.due("none", x.by(-1), true);
        Due.due("by(0) without", x.by(0), false);
        Due.read(x, "takes 42; goes 7;");
        x.house(0, 9);
        x.cat(0, 5);
        Due.due("not told yet to rule", x.takes(0, 0), 5);
        Due.due("by(0)", x.by(0), true);
        Due.due("takes", x.takes(0, 0), 42);
        Due.due("goes", x.goes(0), 7);
        Due.due("by(1)", x.by(1), false);
        Due.due("by(-2)", x.by(-2), false);
        Due.due("it rules yet", x.about(3), 0);
        Due.due("by none", x.by(-1), true);
        Due.due("takes without", x.takes(0, 0), 5);
        Due.due("goes without", x.goes(0), 0);
    }

    private static void tokens() {
        Due.fault("up0;down 1;", 0, -1);
        Due.fault("  up\n\n0   ;  ", 0, -1);
        Due.fault("takes1<2;", 1, 6);
        Due.fault("Takes 1;", 1, 0);
        Due.fault("takes 1;tAkes 1;", 1, 8);
        Due.fault("takesx 1;", 1, 0);
        // a word goes from its first letter to its last: a z A Z are letters
        for (String letter : new String[] {"a", "z", "A", "Z"}) {
            Due.fault("takes" + letter + " 1;", 1, 0);
            Due.fault(letter + "takes 1;", 1, 0);
            Due.fault("takes 1;takes" + letter + " 1;", 1, 8);
        }
        for (String sign : new String[] {"@", "[", "`", "{"}) {
            Due.fault("takes" + sign + " 1;", 1, 5);
        }
        Due.fault("inside 1;", 1, 0);
        Due.fault("goes insides;", 1, 5);
        Due.fault("goes insid;", 1, 5);
        Due.fault("goes hou r;", 1, 5);
        Due.fault("goes col;", 1, 5);
        Due.fault("goes whowhowho;", 1, 5);
        Due.fault("goes " + Due.times(295, "w"), 1, 5);
        // as many tokens as can be
        Due.fault(Due.times(300, ";"), 1, 0);
        Due.fault("takes " + Due.times(147, "1+"), 1, 300);
        Due.fault("takes " + Due.times(146, "1+") + "1;", 0, -1);
        Due.fault("takes " + Due.times(293, "9") + ";", 2, 6);
        Due.fault("takes " + Due.times(292, "0") + "1;", 0, -1);
        Due.fault(Due.times(300, " "), 0, -1);
        Due.fault("takes 1\t;", 1, 7);
        Due.fault("takes 1;\r", 1, 8);
        Due.fault("takes 0001;", 0, -1);
        Due.fault("up 0000000000000000000000005;", 0, -1);
        Due.fault("goes if 1<=2 then 1 else 2 end;", 0, -1);
        Due.fault("goes if 1< =2 then 1 else 2 end;", 1, 11);
        Due.fault("goes if 1=>2 then 1 else 2 end;", 1, 10);
        Due.fault("goes if 1>==2 then 1 else 2 end;", 1, 11);
        Due.fault("goes if 1#2 then 1 else 2 end;", 0, -1);
        Due.fault("goes if 1!2 then 1 else 2 end;", 1, 9);
        Due.fault("takes _;", 1, 6);
        Due.fault("takes \u00e9;", 1, 6);
    }

    private static void cantStand() {
        Due.fault("takes", 1, 5);
        Due.fault("takes ", 1, 6);
        Due.fault("takes ;", 1, 6);
        Due.fault("takes 1 2;", 1, 8);
        Due.fault("takes 1 99999;", 1, 8);
        Due.fault("takes 1+;", 1, 8);
        Due.fault("takes +1;", 1, 6);
        Due.fault("takes (1;", 1, 8);
        Due.fault("takes 1);", 1, 7);
        Due.fault("takes ();", 1, 7);
        Due.fault("takes 1 inside;", 1, 8);
        Due.fault("takes not 1<2;", 1, 6);
        Due.fault("takes 1 to 2;", 1, 8);
        Due.fault("takes turn 1+1 to 2;", 1, 12);
        Due.fault("takes turn (1+1) to 2;", 0, -1);
        Due.fault("goes if 1<2 then 1 end;", 1, 19);
        Due.fault("goes if 1<2 then 1 else 2;", 1, 25);
        Due.fault("goes if (1<2) then 1 else 2 end;", 1, 10);
        Due.fault("goes if 1<2<3 then 1 else 2 end;", 1, 11);
        Due.fault("goes if 1<2 or then 1 else 2 end;", 1, 15);
        Due.fault("goes if not (1)=1 and not not 2#3 or 1>=2 then 1 else 2 end;", 0, -1);
        Due.fault("house 1 cold 2;", 1, 8);
        Due.fault("house 1 dream;", 1, 13);
        Due.fault("house who dream 1;", 1, 6);
        Due.fault("cat 1 dream 2;", 1, 6);
        Due.fault("let 1 2;", 1, 6);
        Due.fault("let 1 to 2", 1, 10);
        Due.fault("out -1;", 1, 4);
        Due.fault("up 1 to 2;", 1, 5);
        Due.fault(";", 1, 0);
        Due.fault("up 1;;", 1, 5);
        Due.fault("5;", 1, 0);
        Due.fault("12345;", 1, 0);
        Due.fault("dream 1;", 1, 0);
    }

    private static void notTold() {
        Due.fault("house 9 dream 999;", 0, -1);
        Due.fault("cat 9 cold 9;", 0, -1);
        Due.fault("let 5 to 5;out 5;up 5;down 5;", 0, -1);
        Due.fault("hour 1;hour 60;", 0, -1);
        Due.fault("hour 0;", 2, 5);
        Due.fault("hour 61;", 2, 5);
        Due.fault("takes 9999;", 0, -1);
        Due.fault("takes 10000;", 2, 6);
        Due.fault("goes 1+99999999999999999999;", 2, 7);
        Due.fault("house 10 dream 1000;", 2, 6);
        Due.fault("house 9 dream 1000;", 2, 14);
        Due.fault("cat 10 cold 9;", 2, 4);
        Due.fault("cat 9 cold 10;", 2, 11);
        Due.fault("let 6 to 5;", 2, 4);
        Due.fault("let 5 to 6;", 2, 9);
        Due.fault("out 6;", 2, 4);
        Due.fault("up 6;", 2, 3);
        Due.fault("up 4294967296;", 2, 3);
        Due.fault("down 6", 2, 5);
    }

    private static void tooDeep() {
        Due.fault("takes " + Due.times(8, "(") + "1" + Due.times(8, ")") + ";", 0, -1);
        Due.fault("takes " + Due.times(9, "(") + "1" + Due.times(9, ")") + ";", 3, 14);
        Due.fault("takes " + Due.times(8, "-") + "1;", 0, -1);
        Due.fault("takes " + Due.times(9, "-") + "1;", 3, 14);
        Due.fault("takes " + Due.times(8, "-") + "1-" + Due.times(8, "-") + "1;", 0, -1);
        Due.fault("takes " + Due.times(8, "(") + "1-1-1" + Due.times(8, ")") + "-(1);", 0, -1);
        Due.fault("takes " + Due.times(8, "chill ") + "1;", 0, -1);
        Due.fault("takes " + Due.times(9, "chill ") + "1;", 3, 54);
        // turn is open till its second is whole
        Due.fault("takes " + Due.times(7, "(") + "turn 1 to 2+-1" + Due.times(7, ")") + ";", 0, -1);
        Due.fault("takes " + Due.times(7, "(") + "turn (1) to 2" + Due.times(7, ")") + ";", 3, 18);
        Due.fault("takes " + Due.times(7, "(") + "turn 1 to -2" + Due.times(7, ")") + ";", 3, 23);
        Due.fault("takes " + Due.times(8, "turn 1 to ") + "1;", 0, -1);
        Due.fault("takes " + Due.times(9, "turn 1 to ") + "1;", 3, 86);
        // not is open till its ASK is whole, if till its end
        String not = Due.times(7, "not ");
        Due.fault("goes if " + not + "1<2 and " + not + "1<2 then -1 else (1) end;", 0, -1);
        Due.fault("goes if " + not + "not 1<2 then 1 else 1 end;", 3, 36);
        Due.fault("goes if " + not + "-1<2 then 1 else 1 end;", 3, 36);
        Due.fault("goes if " + not + "1<-2 then 1 else 1 end;", 3, 38);
        Due.fault("goes if 1<2 then " + Due.times(8, "(") + "1;", 3, 24);
        Due.fault("goes if 1<2 then 1 else " + Due.times(8, "(") + "1;", 3, 31);
        Due.fault("goes if 1<2 then 1 else 2 end+" + Due.times(8, "(") + "1" + Due.times(8, ")") + ";", 0, -1);
        // one that can't stand there is that alone
        Due.fault("goes " + Due.times(8, "(") + "1(;", 1, 14);
    }

    private static void otherFaults() {
        Due.fault("takes 1;goes 1;takes 2;", 4, 15);
        Due.fault("goes 1;goes", 4, 7);
        Due.fault("takes inside;", 5, 6);
        Due.fault("goes dream;", 5, 5);
        Due.fault("goes 1+came;", 5, 7);
        Due.fault("takes dream+came;goes inside;", 0, -1);
        String full = Due.times(24, "out 0;");
        Due.fault(full, 0, -1);
        Due.fault(full + "out 6;", 6, 144);
        Due.fault(full + "inside;", 1, 144);
        Due.fault(full + "  takes 1;", 6, 146);
        Due.fault("takes 1;" + full.substring(6) + "takes 1;", 4, 146);
        Due.fault("takes 1;" + full.substring(6) + "goes 1;", 6, 146);
        // the first that is come to
        Due.fault("goes dream;takes inside;goes 10000;", 5, 5);
        Due.fault("up 6;&", 2, 3);
    }

    private static int reckoned(NightCats x, String sum, boolean takes) {
        x.back();
        Due.due("a text: " + sum, Due.read(x, (takes ? "takes " : "goes ") + sum + ";"), 0);
        x.by(0);
        return takes ? x.takes(1, 0) : x.goes(1);
    }

    private static NightCats furnished() {
        NightCats x = new NightCats();
        x.house(4, 30);
        x.cat(7, 3);
        x.cat(4, 8);
        x.image();
        return x;
    }

    private static void law(String sum, int want) {
        Due.due("goes " + sum, reckoned(furnished(), sum, false), want);
    }

    private static void reckoning() {
        law("1+2*3", 7);
        law("(1+2)*3", 9);
        law("10-3-2", 5);
        law("100/7/2", 7);
        law("7*3/2", 10);
        law("7/2*3", 9);
        law("-7/2", -3);
        law("7/-2", -3);
        law("-7/-2", 3);
        law("5/0", 0);
        law("-5/(3-3)+1", 1);
        law("--4", 4);
        law("-2*3", -6);
        law("2--3", 5);
        law("99", 99);
        law("100", 99);
        law("-100", -99);
        law("9999*9999/9999", 99);
        // 1000000 at each step
        law("9999*9999/9999-1", 99);
        law("9999*9999/5000-150", 50);
        law("-9999*9999/5000+150", -50);
        law("9999*101-9999*100-51", 49);
        law("9999*100+9999*100-9999*100-99", 1);
        law("-9999*100-9999*100+9999*100+99", -1);
        law("9999*9999*9999*9999/(9999*9999)", 1);
        law("turn 3 to 5", 2);
        law("turn 5 to 3", 8);
        law("turn 9 to 0", 1);
        law("turn 13 to 25", 2);
        law("turn -3 to 5", 2);
        law("turn 3 to -15", 2);
        law("turn -13 to -13", 0);
        law("turn 1 to 2*3", 3);
        law("turn 0 to turn 2 to 5", 3);
        law("chill 0", 3);
        law("chill 1", 8);
        law("chill 2", 0);
        law("chill -1", 0);
        law("chill 0+1", 4);
        law("-chill 0", -3);
        law("if 1<2 then 5 else 6 end", 5);
        law("if 2<2 then 5 else 6 end", 6);
        law("if 2<=2 then 5 else 6 end", 5);
        law("if 3<=2 then 5 else 6 end", 6);
        law("if 3>2 then 5 else 6 end", 5);
        law("if 2>2 then 5 else 6 end", 6);
        law("if 2>=2 then 5 else 6 end", 5);
        law("if 1>=2 then 5 else 6 end", 6);
        law("if 2=2 then 5 else 6 end", 5);
        law("if 2=3 then 5 else 6 end", 6);
        law("if 2#3 then 5 else 6 end", 5);
        law("if 2#2 then 5 else 6 end", 6);
        law("if not 2#2 then 5 else 6 end", 5);
        law("if not not 2#2 then 5 else 6 end", 6);
        // and binds closer than or, not closest
        law("if 1=1 or 1=2 and 1=2 then 5 else 6 end", 5);
        law("if 1=2 and 1=2 or 1=1 then 5 else 6 end", 5);
        law("if 1=2 and 1=1 then 5 else 6 end", 6);
        law("if 1=1 and 1=1 then 5 else 6 end", 5);
        law("if 1=2 or 1=2 then 5 else 6 end", 6);
        law("if not 1=1 or 1=1 then 5 else 6 end", 5);
        law("if not 1=2 and 1=2 then 5 else 6 end", 6);
        law("1+if 1<2 then if 1>2 then 1 else 2 end else 3 end*10", 21);
        law("if 1>2 then 1 else if 1<2 then 7 else 8 end+1 end", 8);
        law("if 1+1=2*1 then 1 else 2 end", 1);
        NightCats x = furnished();
        Due.due("takes at most 99", reckoned(x, "1000", true), 99);
        Due.due("takes 0 at least", reckoned(x, "-1", true), 0);
        Due.due("takes 99", reckoned(x, "99", true), 99);
    }

    private static void names() {
        NightCats x = furnished();
        x.hour(1);
        x.let(1, 0);
        for (int i = 0; i < 10 && x.of(1, 2) == -1; i++) {
            x.go(1, true);
            x.let(1, 0);
        }
        Due.due("it is in", x.of(1, 2), 0);
        x.hour(2);
        x.image();
        Due.due("hour", reckoned(x, "hour", true), 3);
        Due.due("who", reckoned(x, "who", true), 1);
        Due.due("cold", reckoned(x, "cold", true), 8);
        Due.due("taken", reckoned(x, "taken", true), 16);
        Due.due("place", reckoned(x, "place", true), 4);
        Due.due("dream", reckoned(x, "dream", true), 14);
        Due.due("came", reckoned(x, "came+20", true), 21);
        Due.due("inside", reckoned(x, "inside", false), 1);
        Due.due("hour", reckoned(x, "hour", false), 3);
        Due.due("taken", reckoned(x, "taken", false), 16);
        x.back();
        x.out(0);
        x.image();
        Due.due("inside, without", reckoned(x, "inside", false), 0);
        x.back();
        x.go(1, false);
        x.image();
        Due.due("place, without", reckoned(x, "place", false), 3);
    }
}
