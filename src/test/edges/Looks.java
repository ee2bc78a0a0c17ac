/** All that can be seen of an object, by one of four ways: by questions, by undo, by the tape, by the image. */
final class Looks {
    static final int WAYS = 4;

    private Looks() {
    }

    static String look(NightCats x, int way) {
        StringBuilder all = new StringBuilder();
        switch (way) {
            case 0:
                questions(x, all);
                break;
            case 1:
                steps(x, all);
                break;
            case 2:
                tape(x, all);
                break;
            default:
                put(all, "back()", x.back());
                questions(x, all);
        }
        return all.toString();
    }

    static String difference(String got, String due) {
        String[] g = got.split("\n");
        String[] d = due.split("\n");
        int i = 0;
        while (i < g.length && i < d.length && g[i].equals(d[i])) {
            i++;
        }
        return (i < g.length ? g[i] : "less") + ", due is " + (i < d.length ? d[i] : "less");
    }

    private static void put(StringBuilder all, String call, long answer) {
        all.append(call).append(" = ").append(answer).append('\n');
    }

    private static void questions(NightCats x, StringBuilder all) {
        for (int i = 0; i < 10; i++) {
            put(all, "about(" + i + ")", x.about(i));
            put(all, "track(" + i + ")", x.track(i));
        }
        for (int i = 0; i < 4; i++) {
            put(all, "is(" + i + ")", x.is(i));
        }
        put(all, "fault(0)", x.fault(0));
        put(all, "fault(1)", x.fault(1));
        houses(x, all);
        cats(x, all);
        for (int i = 0; i < x.book(-1, 0); i++) {
            for (int what = 0; what < 4; what++) {
                put(all, "book(" + i + ", " + what + ")", x.book(i, what));
            }
        }
        put(all, "which()", x.which());
        put(all, "whose()", x.whose());
        put(all, "dream()", x.dream());
        for (int i = -1; i < 5; i++) {
            put(all, "joins(" + i + ")", x.joins(i));
        }
    }

    private static void houses(NightCats x, StringBuilder all) {
        for (int h = 0; h < x.about(0); h++) {
            for (int what = 0; what < 4; what++) {
                put(all, "ofHouse(" + h + ", " + what + ")", x.ofHouse(h, what));
            }
            put(all, "matched(" + h + ")", x.matched(h));
        }
    }

    private static void cats(NightCats x, StringBuilder all) {
        for (int c = 0; c < x.about(1); c++) {
            for (int what = 0; what < 4; what++) {
                put(all, "of(" + c + ", " + what + ")", x.of(c, what));
            }
            put(all, "goes(" + c + ")", x.goes(c));
            for (int h = 0; h < x.about(0) && h < 3; h++) {
                put(all, "takes(" + c + ", " + h + ")", x.takes(c, h));
            }
        }
    }

    private static void steps(NightCats x, StringBuilder all) {
        for (int i = 0; i <= 30; i++) {
            put(all, "undo()", x.undo());
            put(all, "hour", x.is(0));
            put(all, "X", x.is(1));
            put(all, "dreams", x.is(2));
            put(all, "taken", x.is(3));
            put(all, "of(0, 0)", x.of(0, 0));
            put(all, "of(0, 2)", x.of(0, 2));
            put(all, "of(1, 2)", x.of(1, 2));
        }
    }

    /** The tape is read as it is, then with more behind it, then a text is told if there is room for one. */
    private static void tape(NightCats x, StringBuilder all) {
        put(all, "bytes", x.about(9));
        put(all, "text()", x.text());
        put(all, "fault(0)", x.fault(0));
        put(all, "fault(1)", x.fault(1));
        put(all, "bytes", x.about(9));
        put(all, "feed", x.feed(0x75702031, 0x3b686f75, 0x7220313b, 0x20202020, 0x20202020));
        put(all, "text()", x.text());
        put(all, "fault(0)", x.fault(0));
        put(all, "fault(1)", x.fault(1));
        for (int i = 0; i < 4; i++) {
            put(all, "played(" + i + ")", x.played(i));
            put(all, "X", x.is(1));
            put(all, "by(" + i + ")", x.by(i) ? 1 : 0);
            put(all, "hour(1)", x.hour(1));
        }
    }
}
