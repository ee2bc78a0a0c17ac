/** Counts the answers that are not the ones that are due, and feeds texts. */
final class Due {
    private static int asked = 0;
    private static int wrong = 0;

    private Due() {
    }

    static void due(String call, long got, long want) {
        asked++;
        if (got != want) {
            wrong++;
            System.out.println(call + " answered " + got + ", due is " + want);
        }
    }

    static void due(String call, boolean got, boolean want) {
        due(call, got ? 1 : 0, want ? 1 : 0);
    }

    /** The tape has just these signs, each one byte. */
    static void tape(NightCats x, String all) {
        x.end(0);
        for (int i = 0; i < all.length(); i += 20) {
            int[] words = new int[5];
            for (int j = 0; j < 20; j++) {
                words[j / 4] = words[j / 4] << 8 | (i + j < all.length() ? all.charAt(i + j) & 255 : 0);
            }
            x.feed(words[0], words[1], words[2], words[3], words[4]);
        }
        x.end(all.length());
    }

    static int read(NightCats x, String all) {
        tape(x, all);
        return x.text();
    }

    /** A text that must have that fault at that place. */
    static void fault(String all, int fault, int place) {
        NightCats x = new NightCats();
        due("text " + all, read(x, all), fault == 0 ? 0 : -1);
        due("fault of " + all, x.fault(0), fault);
        due("place of the fault of " + all, x.fault(1), place);
    }

    static String times(int n, String part) {
        StringBuilder all = new StringBuilder();
        for (int i = 0; i < n; i++) {
            all.append(part);
        }
        return all.toString();
    }

    /** Tells how it went, and ends with 1 if an answer was wrong. */
    static void close() {
        System.out.println(wrong == 0 ? asked + " answers are as due" : wrong + " of " + asked + " answers are not as due");
        if (wrong != 0) {
            System.exit(1);
        }
    }
}
