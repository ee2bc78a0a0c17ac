/** Houses and cats around a square of ten places, and what can be asked of them: ../shared/DOC.md says what it does. */
public final class NightCats {

    public static final int NONE = -1;

    private static final int OTHERS = -2;
    private static final int NO_LAW = -100;
    private static final int PLACES = 10;
    private static final int HOUSES = 6;
    private static final int CATS = 6;
    private static final int TEXTS = 4;
    private static final int MOST_DREAM = 999;
    private static final int MOST_COLD = 9;
    private static final int MOST_CAME = 999;
    private static final int MOST_TAKEN = 9999;
    private static final int MOST_BY_LAW = 99;
    private static final int LAST_HOUR = 9999;
    private static final int HOURS_AT_ONCE = 60;
    private static final int YEARS_AT_ONCE = 40;
    private static final int MOST_SEED = 9999;
    private static final int FIRST_X = 397;

    private static final int BOOK = 25;
    private static final int LET_IN = 0;
    private static final int PUT_OUT = 1;
    private static final int GONE_OFF = 2;
    private static final int STEPS = 30;
    // a night in a row: five single numbers, three rows of cats, two of houses, the book
    private static final int ROW = 5 + 3 * CATS + 2 * HOUSES + BOOK;

    // more steps than any pairs need together
    private static final int UNABLE = 1000;
    private static final int SIGHTS = 10;
    private static final int LAST_SIGHT = 99;
    private static final int CLUES = 8;
    private static final int PIECES = 5;
    private static final int WIDEST = 4;
    private static final int QUESTIONS = 12;
    private static final int NIGHTS = 8;
    private static final int HEAP = 12;

    private static final int BYTES = 300;
    private static final int CLAUSES = 24;
    private static final int NEW_LINE = 10;
    private static final int OPEN = 8;
    private static final int HIGHEST = 9999;
    private static final int LIMIT = 1000000;
    // eight openers around one another leave five values waiting at each of nine levels at most
    private static final int STACK = 64;

    private static final int CANT_STAND = 1;
    private static final int NOT_TOLD = 2;
    private static final int TOO_DEEP = 3;
    private static final int SECOND_LAW = 4;
    private static final int FOREIGN_NAME = 5;
    private static final int TOO_MANY = 6;

    // Kinds of tokens; in the code of a law they are what is to be done.
    // A sign of one byte is that byte, a word is WORD and its number in WORDS, where each has six columns.
    private static final int END = 0;
    private static final int NUMBER = 1;
    private static final int NO_TOKEN = 2;
    private static final int LESS_OR_LIKE = 3;
    private static final int MORE_OR_LIKE = 4;
    private static final int NEGATE = 5;
    private static final String SIGNS = "<>=#+-*/();";
    private static final String WORDS = "takes goes  house cat   let   out   up    down  hour  dream cold  to    turn  chill if    then  else  end   or    and   not   who   taken place came  inside";
    private static final int LONGEST_WORD = 6;
    private static final int WORD = 300;
    private static final int TAKES = 300;
    private static final int GOES = 301;
    private static final int HOUSE = 302;
    private static final int CAT = 303;
    private static final int LET = 304;
    private static final int OUT = 305;
    private static final int UP = 306;
    private static final int DOWN = 307;
    private static final int HOUR = 308;
    private static final int DREAM = 309;
    private static final int COLD = 310;
    private static final int TO = 311;
    private static final int TURN = 312;
    private static final int CHILL = 313;
    private static final int IF = 314;
    private static final int THEN = 315;
    private static final int ELSE = 316;
    private static final int CLOSE = 317;
    private static final int OR = 318;
    private static final int AND = 319;
    private static final int NOT = 320;
    private static final int WHO = 321;
    private static final int TAKEN = 322;
    private static final int PLACE = 323;
    private static final int CAME = 324;
    private static final int INSIDE = 325;

    private final World now;
    private final World kept;
    private final Text[] texts;
    private final Text bare;
    private final Reader reader;
    private final Law law;
    private final Pairs pairs;
    private final Tracks tracks;
    private final Joins chain;
    private final int[] alike;
    private final int[] spare;

    public NightCats() {
        now = new World();
        kept = new World();
        texts = new Text[TEXTS];
        for (int i = 0; i < TEXTS; i++) {
            texts[i] = new Text();
        }
        bare = new Text();
        reader = new Reader();
        law = new Law();
        pairs = new Pairs();
        tracks = new Tracks();
        chain = new Joins();
        alike = new int[CATS];
        spare = new int[ROW];
    }

    // ---- houses and cats

    public int house(int door, int dream) {
        if (!within(door, 0, PLACES - 1) || !within(dream, 0, MOST_DREAM)) {
            return NONE;
        }
        return now.night.build(door, dream);
    }

    public int cat(int place, int cold) {
        if (!within(place, 0, PLACES - 1) || !within(cold, 0, MOST_COLD)) {
            return NONE;
        }
        return now.night.bring(place, cold);
    }

    // ---- the tape and its texts

    public int feed(int a, int b, int c, int d, int e) {
        if (reader.length + 20 > BYTES) {
            return NONE;
        }
        reader.append(a);
        reader.append(b);
        reader.append(c);
        reader.append(d);
        reader.append(e);
        return reader.length;
    }

    public int end(int n) {
        if (!within(n, 0, reader.length)) {
            return NONE;
        }
        reader.length = n;
        return n;
    }

    public int text() {
        if (now.texts >= TEXTS) {
            return NONE;
        }
        boolean whole = reader.read();
        reader.length = 0;
        if (!whole) {
            return NONE;
        }
        texts[now.texts].become(reader.draft);
        now.texts++;
        return now.texts - 1;
    }

    public int fault(int what) {
        switch (what) {
            case 0:
                return reader.fault;
            case 1:
                return reader.faultAt;
            default:
                return NONE;
        }
    }

    public boolean by(int text) {
        if (text != NONE && !isText(text)) {
            return false;
        }
        now.ruling = text;
        return true;
    }

    // ---- what is done

    public boolean let(int cat, int house) {
        return enter(cat, house, true);
    }

    public int out(int house) {
        return leave(house, true);
    }

    public boolean go(int cat, boolean up) {
        return walk(cat, up, true);
    }

    public int hour(int n) {
        if (!within(n, 1, HOURS_AT_ONCE) || now.night.hour + n > LAST_HOUR) {
            return NONE;
        }
        int taken = 0;
        for (int i = 0; i < n; i++) {
            taken += pass(true);
        }
        return taken;
    }

    public int played(int text) {
        if (!isText(text)) {
            return OTHERS;
        }
        Text played = texts[text];
        for (int i = 0; i < played.clauses; i++) {
            if (!act(played.kind[i], played.first[i], played.second[i])) {
                return i;
            }
        }
        return NONE;
    }

    public int years(int seed, int n) {
        if (!within(seed, 0, MOST_SEED) || !within(n, 1, YEARS_AT_ONCE)) {
            return NONE;
        }
        now.steps.keep(now.night);
        now.night.x = seed * 2 + FIRST_X;
        for (int i = 0; i < n; i++) {
            drawn(now.night.draw());
        }
        return now.night.hour;
    }

    public int undo() {
        if (now.steps.count == 0) {
            return NONE;
        }
        now.steps.takeBack(now.night);
        return now.steps.count;
    }

    // ---- how it stands

    public int of(int cat, int what) {
        Night night = now.night;
        if (!night.isCat(cat)) {
            return OTHERS;
        }
        switch (what) {
            case 0:
                return night.place[cat];
            case 1:
                return night.cold[cat];
            case 2:
                return night.home[cat];
            case 3:
                return night.taken[cat];
            default:
                return OTHERS;
        }
    }

    public int ofHouse(int house, int what) {
        Night night = now.night;
        if (!night.isHouse(house)) {
            return OTHERS;
        }
        switch (what) {
            case 0:
                return night.door[house];
            case 1:
                return night.dream[house];
            case 2:
                return night.guest(house);
            case 3:
                return night.came[house];
            default:
                return OTHERS;
        }
    }

    public int takes(int cat, int house) {
        if (!now.night.isCat(cat) || !now.night.isHouse(house)) {
            return NO_LAW;
        }
        return law.taking(rule(), now.night, cat, house);
    }

    public int goes(int cat) {
        if (!now.night.isCat(cat)) {
            return NO_LAW;
        }
        return law.going(rule(), now.night, cat);
    }

    public int is(int what) {
        switch (what) {
            case 0:
                return now.night.hour;
            case 1:
                return now.night.x;
            case 2:
                return total(now.night.dream, now.night.houses);
            case 3:
                return total(now.night.taken, now.night.cats);
            default:
                return OTHERS;
        }
    }

    public int book(int i, int what) {
        if (i == NONE) {
            return now.night.booked;
        }
        if (!within(i, 0, now.night.booked - 1)) {
            return OTHERS;
        }
        int line = now.night.book[i];
        switch (what) {
            case 0:
                return hourOf(line);
            case 1:
                return catOf(line);
            case 2:
                return houseOf(line);
            case 3:
                return deedOf(line);
            default:
                return OTHERS;
        }
    }

    // ---- what comes, and who should be let in where

    public int foretold(int n, int what, int which) {
        Night night = now.night;
        boolean askable = what == 0 && night.isCat(which) || what == 1 && night.isHouse(which);
        if (!within(n, 1, HOURS_AT_ONCE) || !askable) {
            return NONE;
        }
        night.write(spare, 0);
        for (int i = 0; i < n; i++) {
            pass(false);
        }
        int answer = what == 0 ? night.place[which] : night.dream[which];
        night.restore(spare, 0);
        return answer;
    }

    public int far(int cat, int house) {
        if (!now.night.isCat(cat) || !now.night.isHouse(house)) {
            return NONE;
        }
        return now.night.away(cat, house);
    }

    public int match(int what) {
        return bestPairs(what, false);
    }

    public int matched(int house) {
        if (!now.night.isHouse(house)) {
            return NONE;
        }
        pairs.settle(now.night, false);
        return pairs.partner(now.night, house);
    }

    public int latest(int what) {
        return bestPairs(what, true);
    }

    // ---- orders and sights

    public long orders() {
        long ways = 1;
        for (int cat = 0; cat < now.night.cats; cat++) {
            int alike = 1;
            for (int other = 0; other < cat; other++) {
                alike += now.night.cold[other] == now.night.cold[cat] ? 1 : 0;
            }
            ways *= alike;
        }
        return ways;
    }

    public int order(int i) {
        for (int cat = 0; cat < now.night.cats; cat++) {
            if (now.night.rank(cat) == i) {
                return cat;
            }
        }
        return NONE;
    }

    public int seen(int hour, int place) {
        boolean fits = within(hour, 0, LAST_SIGHT) && within(place, 0, PLACES - 1);
        return tell(now.sights, hour, place, 0, fits);
    }

    public int fewest() {
        tracks.follow(now.sights);
        return tracks.cats;
    }

    public int track(int i) {
        if (!now.sights.has(i)) {
            return NONE;
        }
        tracks.follow(now.sights);
        return tracks.owner[i];
    }

    public boolean same(int a, int b) {
        return now.sights.has(a) && now.sights.has(b) && canBeOne(now.sights, a, b);
    }

    // ---- which it was

    public int told(int house, int gone) {
        boolean fits = now.night.isHouse(house) && within(gone, 0, MOST_BY_LAW);
        return tell(now.clues, house, gone, 0, fits);
    }

    public int which() {
        int bits = 0;
        for (int cat = 0; cat < now.night.cats; cat++) {
            if (fitsClues(cat)) {
                bits |= 1 << cat;
            }
        }
        return bits;
    }

    public long likely(int cat, boolean low) {
        int fits = which();
        if (!now.night.isCat(cat) || fits == 0) {
            return NONE;
        }
        long all = 0;
        long own = 0;
        for (int other = 0; other < now.night.cats; other++) {
            int counts = hasBit(fits, other) ? 10 - now.night.cold[other] : 0;
            all += counts;
            own += other == cat ? counts : 0;
        }
        return ratio(own, all, low);
    }

    public int askNext() {
        int fits = which();
        int best = NONE;
        int least = CATS + 1;
        if (Integer.bitCount(fits) < 2) {
            return NONE;
        }
        for (int house = 0; house < now.night.houses; house++) {
            int alike = mostAlike(fits, house);
            if (alike < least) {
                least = alike;
                best = house;
            }
        }
        return best;
    }

    // ---- pieces of a dream

    public int piece(int width, int bits) {
        if (!within(width, 1, WIDEST) || !within(bits, 0, (1 << width) - 1)) {
            return NONE;
        }
        return now.pieces.add(width, bits, 0) ? now.pieces.count - 1 : NONE;
    }

    public int joins(int i) {
        chain.join(now.pieces);
        if (i == NONE) {
            return chain.ways;
        }
        return now.pieces.has(i) && chain.ways > 0 ? chain.lowest[i] : OTHERS;
    }

    public long dream() {
        chain.join(now.pieces);
        return chain.ways == 0 ? NONE : chain.whole(now.pieces);
    }

    // ---- prices, chances, a game

    public int price(int n) {
        if (!within(n, 0, QUESTIONS)) {
            return NONE;
        }
        int worth = 0;
        for (int i = 0; i < n; i++) {
            worth = Math.max(0, (540 + 2 * worth) / 3 - 60);
        }
        return worth;
    }

    public long chances(int n, int k, boolean low) {
        if (!within(n, 0, NIGHTS) || !within(k, 0, n)) {
            return NONE;
        }
        long upper = 1;
        long lower = 1;
        for (int i = 0; i < k; i++) {
            upper = upper * (n - i) / (i + 1);
        }
        for (int i = 0; i < n; i++) {
            upper *= i < n - k ? 2 : 1;
            lower *= 3;
        }
        return ratio(upper, lower, low);
    }

    public int game(int a, int b) {
        if (!within(a, 0, HEAP) || !within(b, 0, HEAP)) {
            return NONE;
        }
        return isLost(a, b) ? 0 : 1;
    }

    public int play(int a, int b) {
        if (!within(a, 0, HEAP) || !within(b, 0, HEAP)) {
            return NONE;
        }
        for (int first = 0; first <= Math.min(2, a); first++) {
            for (int second = 0; second <= Math.min(2, b); second++) {
                if (isMove(first, second) && isLost(a - first, b - second)) {
                    return 10 * first + second;
                }
            }
        }
        return NONE;
    }

    // ---- whose law it was

    public int said(int cat, int house, int takes) {
        boolean fits = now.night.isCat(cat) && now.night.isHouse(house) && within(takes, 0, MOST_BY_LAW);
        return tell(now.claims, cat, house, takes, fits);
    }

    public int whose() {
        int bits = 0;
        for (int text = 0; text < now.texts; text++) {
            if (fitsClaims(texts[text])) {
                bits |= 1 << text;
            }
        }
        return bits;
    }

    // ---- smaller questions

    public int nearest(int cat) {
        Night night = now.night;
        int best = NONE;
        if (!night.isCat(cat)) {
            return NONE;
        }
        for (int house = 0; house < night.houses; house++) {
            boolean open = night.guest(house) == NONE;
            if (open && (best == NONE || night.away(cat, house) < night.away(cat, best))) {
                best = house;
            }
        }
        return best;
    }

    public int at(int place) {
        if (!within(place, 0, PLACES - 1)) {
            return NONE;
        }
        return now.night.catsAt(place);
    }

    public int gap() {
        int longest = 0;
        int run = 0;
        for (int i = 0; i < 2 * PLACES; i++) {
            run = now.night.catsAt(i % PLACES) == 0 ? run + 1 : 0;
            longest = Math.max(longest, run);
        }
        return Math.min(longest, PLACES);
    }

    public int share(int cat, boolean low) {
        if (!now.night.isCat(cat)) {
            return NONE;
        }
        return (int) ratio(now.night.taken[cat], total(now.night.taken, now.night.cats), low);
    }

    public int coldest() {
        int best = NONE;
        for (int cat = 0; cat < now.night.cats; cat++) {
            if (best == NONE || now.night.cold[cat] > now.night.cold[best]) {
                best = cat;
            }
        }
        return best;
    }

    public int dreamless() {
        int bits = 0;
        for (int house = 0; house < now.night.houses; house++) {
            bits |= now.night.dream[house] == 0 ? 1 << house : 0;
        }
        return bits;
    }

    public int free() {
        int bits = 0;
        for (int house = 0; house < now.night.houses; house++) {
            bits |= now.night.guest(house) == NONE ? 1 << house : 0;
        }
        return bits;
    }

    public int ledger(int cat) {
        if (cat == NONE) {
            return now.night.booked;
        }
        if (!now.night.isCat(cat)) {
            return OTHERS;
        }
        int lines = 0;
        for (int i = 0; i < now.night.booked; i++) {
            lines += catOf(now.night.book[i]) == cat ? 1 : 0;
        }
        return lines;
    }

    // ---- the image

    public int image() {
        kept.become(now);
        return now.night.hour;
    }

    public int back() {
        now.become(kept);
        return now.night.hour;
    }

    public int about(int what) {
        switch (what) {
            case 0:
                return now.night.houses;
            case 1:
                return now.night.cats;
            case 2:
                return now.texts;
            case 3:
                return now.ruling;
            case 4:
                return now.steps.count;
            case 5:
                return now.sights.count;
            case 6:
                return now.clues.count;
            case 7:
                return now.pieces.count;
            case 8:
                return now.claims.count;
            case 9:
                return reader.length;
            default:
                return OTHERS;
        }
    }

    // ---- what the calls above share

    private static boolean within(int n, int least, int most) {
        return n >= least && n <= most;
    }

    private static boolean hasBit(int bits, int i) {
        return (bits >> i & 1) == 1;
    }

    private static int total(int[] row, int n) {
        int sum = 0;
        for (int i = 0; i < n && i < row.length; i++) {
            sum += row[i];
        }
        return sum;
    }

    /** One of two numbers in lowest terms; 0 by 0 counts as 0 by 1. */
    private static long ratio(long upper, long lower, boolean low) {
        long common = lower;
        long rest = upper;
        for (int i = 0; i < 100 && rest != 0; i++) {
            long next = common % rest;
            common = rest;
            rest = next;
        }
        if (common == 0) {
            return low ? 1 : 0;
        }
        return (low ? lower : upper) / common;
    }

    private boolean isText(int text) {
        return within(text, 0, now.texts - 1);
    }

    private Text rule() {
        return isText(now.ruling) ? texts[now.ruling] : bare;
    }

    // A step is kept ahead of what is done by hand, but not of each thing done in a draw of years.

    private boolean enter(int cat, int house, boolean step) {
        if (!now.night.canEnter(cat, house)) {
            return false;
        }
        keepIf(step);
        now.night.enter(cat, house);
        return true;
    }

    private int leave(int house, boolean step) {
        int cat = now.night.guest(house);
        if (cat == NONE) {
            return NONE;
        }
        keepIf(step);
        now.night.leave(cat, house, PUT_OUT);
        return cat;
    }

    private boolean walk(int cat, boolean up, boolean step) {
        if (!now.night.isCat(cat) || now.night.home[cat] != NONE) {
            return false;
        }
        keepIf(step);
        now.night.move(cat, up ? 1 : -1);
        return true;
    }

    /** An hour: how much dream is taken in it, NONE if it can't pass. */
    private int pass(boolean step) {
        Night night = now.night;
        if (night.hour >= LAST_HOUR) {
            return NONE;
        }
        keepIf(step);
        int taken = 0;
        for (int cat = 0; cat < night.cats; cat++) {
            int house = night.home[cat];
            if (house == NONE) {
                night.wander(cat);
                continue;
            }
            taken += night.take(cat, house, law.taking(rule(), night, cat, house));
            if (law.going(rule(), night, cat) > 0) {
                night.leave(cat, house, GONE_OFF);
            }
        }
        night.hour++;
        return taken;
    }

    private void keepIf(boolean step) {
        if (step) {
            now.steps.keep(now.night);
        }
    }

    private boolean act(int clause, int first, int second) {
        switch (clause) {
            case HOUSE:
                return house(first, second) != NONE;
            case CAT:
                return cat(first, second) != NONE;
            case LET:
                return let(first, second);
            case OUT:
                return out(first) != NONE;
            case UP:
                return go(first, true);
            case DOWN:
                return go(first, false);
            case HOUR:
                return allPass(first);
            default:
                return true;
        }
    }

    private boolean allPass(int hours) {
        for (int i = 0; i < hours; i++) {
            if (pass(true) == NONE) {
                return false;
            }
        }
        return true;
    }

    private void drawn(int x) {
        int cat = now.night.cats > 0 ? x / 6 % now.night.cats : NONE;
        int house = now.night.houses > 0 ? x % now.night.houses : NONE;
        switch (x % 6) {
            case 0:
            case 1:
                enter(cat, house, false);
                break;
            case 2:
                leave(house, false);
                break;
            case 3:
                walk(cat, x / 6 % 2 == 0, false);
                break;
            default:
                pass(false);
        }
    }

    private static int hourOf(int line) {
        return line / (CATS * HOUSES * 3);
    }

    private static int catOf(int line) {
        return line / (HOUSES * 3) % CATS;
    }

    private static int houseOf(int line) {
        return line / 3 % HOUSES;
    }

    private static int deedOf(int line) {
        return line % 3;
    }

    private int bestPairs(int what, boolean farthest) {
        if (!within(what, 0, 1)) {
            return NONE;
        }
        pairs.settle(now.night, farthest);
        return what == 0 ? pairs.most : pairs.leastSteps();
    }

    private static int tell(Notes notes, int first, int second, int third, boolean fits) {
        if (first == NONE) {
            notes.count = 0;
            return 0;
        }
        if (!fits || !notes.add(first, second, third)) {
            return OTHERS;
        }
        return notes.count;
    }

    private static boolean canBeOne(Notes sights, int a, int b) {
        int hours = Math.abs(sights.first[a] - sights.first[b]);
        return around(sights.second[a], sights.second[b]) <= hours;
    }

    /** How many places one is from another by the shorter way. */
    private static int around(int a, int b) {
        int straight = Math.abs(a - b);
        return Math.min(straight, PLACES - straight);
    }

    private boolean fitsClues(int cat) {
        Notes clues = now.clues;
        for (int i = 0; i < clues.count; i++) {
            if (takes(cat, clues.first[i]) != clues.second[i]) {
                return false;
            }
        }
        return true;
    }

    private int mostAlike(int fits, int house) {
        int most = 0;
        for (int cat = 0; cat < now.night.cats; cat++) {
            alike[cat] = hasBit(fits, cat) ? takes(cat, house) : NONE;
            int group = 0;
            for (int other = 0; other <= cat; other++) {
                group += alike[cat] != NONE && alike[other] == alike[cat] ? 1 : 0;
            }
            most = Math.max(most, group);
        }
        return most;
    }

    private boolean fitsClaims(Text text) {
        Notes claims = now.claims;
        for (int i = 0; i < claims.count; i++) {
            if (law.taking(text, now.night, claims.first[i], claims.second[i]) != claims.third[i]) {
                return false;
            }
        }
        return true;
    }

    private static boolean isMove(int first, int second) {
        return first + second > 0 && (first == 0 || second == 0 || first == second);
    }

    /** One who begins loses where both heaps together go by 3: no move (1, 2, 1 and 1, 2 and 2) keeps that, and from elsewhere one leads to it. */
    private static boolean isLost(int a, int b) {
        return (a + b) % 3 == 0;
    }

    // ---- classes

    /** All that an image keeps. */
    private static final class World {
        final Night night;
        final Steps steps;
        final Notes sights;
        final Notes clues;
        final Notes pieces;
        final Notes claims;
        int texts;
        int ruling;

        World() {
            night = new Night();
            steps = new Steps();
            sights = new Notes(SIGHTS);
            clues = new Notes(CLUES);
            pieces = new Notes(PIECES);
            claims = new Notes(CLUES);
            texts = 0;
            ruling = NONE;
        }

        /** The texts themselves need no copy: those that an image has are never written again while it stands. */
        void become(World other) {
            night.become(other.night);
            steps.become(other.steps);
            sights.become(other.sights);
            clues.become(other.clues);
            pieces.become(other.pieces);
            claims.become(other.claims);
            texts = other.texts;
            ruling = other.ruling;
        }
    }

    /** The houses, the cats, the hour, X and the book. */
    private static final class Night {
        final int[] door = new int[HOUSES];
        final int[] dream = new int[HOUSES];
        final int[] came = new int[HOUSES];
        final int[] cold = new int[CATS];
        final int[] place = new int[CATS];
        final int[] home = new int[CATS];
        final int[] taken = new int[CATS];
        final int[] book = new int[BOOK];
        int houses;
        int cats;
        int booked;
        int hour;
        int x;

        Night() {
            x = FIRST_X;
        }

        boolean isHouse(int n) {
            return n >= 0 && n < houses;
        }

        boolean isCat(int n) {
            return n >= 0 && n < cats;
        }

        int build(int atPlace, int full) {
            if (houses >= HOUSES) {
                return NONE;
            }
            door[houses] = atPlace;
            dream[houses] = full;
            came[houses] = 0;
            houses++;
            return houses - 1;
        }

        int bring(int toPlace, int coldness) {
            if (cats >= CATS) {
                return NONE;
            }
            place[cats] = toPlace;
            cold[cats] = coldness;
            home[cats] = NONE;
            taken[cats] = 0;
            cats++;
            return cats - 1;
        }

        /** The cat in a house. */
        int guest(int house) {
            for (int cat = 0; cat < cats && isHouse(house); cat++) {
                if (home[cat] == house) {
                    return cat;
                }
            }
            return NONE;
        }

        boolean canEnter(int cat, int house) {
            return isCat(cat) && isHouse(house) && home[cat] == NONE && place[cat] == door[house] && guest(house) == NONE;
        }

        void enter(int cat, int house) {
            home[cat] = house;
            came[house] = Math.min(came[house] + 1, MOST_CAME);
            note(cat, house, LET_IN);
        }

        /** A cat in a house stands at its door already, so its place stays. */
        void leave(int cat, int house, int how) {
            home[cat] = NONE;
            note(cat, house, how);
        }

        void move(int cat, int by) {
            place[cat] = (place[cat] + by + PLACES) % PLACES;
        }

        void wander(int cat) {
            int way = draw() % 3;
            if (way != 0) {
                move(cat, way == 1 ? 1 : -1);
            }
        }

        /** X as it is; behind it X is anew. */
        int draw() {
            int drawn = x;
            x = (x * 647 + 509) % 30931;
            return drawn;
        }

        int take(int cat, int house, int takes) {
            int bite = Math.min(takes, dream[house]);
            dream[house] -= bite;
            taken[cat] = Math.min(taken[cat] + bite, MOST_TAKEN);
            return bite;
        }

        private void note(int cat, int house, int deed) {
            if (booked >= BOOK) {
                System.arraycopy(book, 1, book, 0, BOOK - 1);
                booked = BOOK - 1;
            }
            book[booked] = ((hour * CATS + cat) * HOUSES + house) * 3 + deed;
            booked++;
        }

        int away(int cat, int house) {
            return around(place[cat], door[house]);
        }

        /** The cats without at a place. */
        int catsAt(int where) {
            int bits = 0;
            for (int cat = 0; cat < cats; cat++) {
                bits |= home[cat] == NONE && place[cat] == where ? 1 << cat : 0;
            }
            return bits;
        }

        /** How many cats come ahead of one in the lowest order. */
        int rank(int cat) {
            int ahead = 0;
            for (int other = 0; other < cats; other++) {
                boolean first = cold[other] < cold[cat] || cold[other] == cold[cat] && other < cat;
                ahead += first ? 1 : 0;
            }
            return ahead;
        }

        void write(int[] row, int at) {
            if (at < 0 || at + ROW > row.length) {
                return;
            }
            row[at] = houses;
            row[at + 1] = cats;
            row[at + 2] = booked;
            row[at + 3] = hour;
            row[at + 4] = x;
            System.arraycopy(place, 0, row, at + 5, CATS);
            System.arraycopy(home, 0, row, at + 5 + CATS, CATS);
            System.arraycopy(taken, 0, row, at + 5 + 2 * CATS, CATS);
            System.arraycopy(dream, 0, row, at + 5 + 3 * CATS, HOUSES);
            System.arraycopy(came, 0, row, at + 5 + 3 * CATS + HOUSES, HOUSES);
            System.arraycopy(book, 0, row, at + 5 + 3 * CATS + 2 * HOUSES, BOOK);
        }

        /** All as in the row, but houses and cats told since stay as they are. */
        void restore(int[] row, int at) {
            if (at < 0 || at + ROW > row.length) {
                return;
            }
            int oldHouses = Math.min(row[at], houses);
            int oldCats = Math.min(row[at + 1], cats);
            booked = row[at + 2];
            hour = row[at + 3];
            x = row[at + 4];
            System.arraycopy(row, at + 5, place, 0, oldCats);
            System.arraycopy(row, at + 5 + CATS, home, 0, oldCats);
            System.arraycopy(row, at + 5 + 2 * CATS, taken, 0, oldCats);
            System.arraycopy(row, at + 5 + 3 * CATS, dream, 0, oldHouses);
            System.arraycopy(row, at + 5 + 3 * CATS + HOUSES, came, 0, oldHouses);
            System.arraycopy(row, at + 5 + 3 * CATS + 2 * HOUSES, book, 0, BOOK);
        }

        void become(Night other) {
            System.arraycopy(other.door, 0, door, 0, HOUSES);
            System.arraycopy(other.dream, 0, dream, 0, HOUSES);
            System.arraycopy(other.came, 0, came, 0, HOUSES);
            System.arraycopy(other.cold, 0, cold, 0, CATS);
            System.arraycopy(other.place, 0, place, 0, CATS);
            System.arraycopy(other.home, 0, home, 0, CATS);
            System.arraycopy(other.taken, 0, taken, 0, CATS);
            System.arraycopy(other.book, 0, book, 0, BOOK);
            houses = other.houses;
            cats = other.cats;
            booked = other.booked;
            hour = other.hour;
            x = other.x;
        }
    }

    /** The latest nights that can be gone back to, one row each, around a ring. */
    private static final class Steps {
        private final int[] rows = new int[STEPS * ROW];
        private int first;
        int count;

        Steps() {
            first = 0;
            count = 0;
        }

        void keep(Night night) {
            night.write(rows, (first + count) % STEPS * ROW);
            if (count < STEPS) {
                count++;
            } else {
                first = (first + 1) % STEPS;
            }
        }

        void takeBack(Night night) {
            if (count > 0) {
                count--;
                night.restore(rows, (first + count) % STEPS * ROW);
            }
        }

        void become(Steps other) {
            System.arraycopy(other.rows, 0, rows, 0, STEPS * ROW);
            first = other.first;
            count = other.count;
        }
    }

    /** A list of what is told: rows of up to three numbers. */
    private static final class Notes {
        final int most;
        final int[] first;
        final int[] second;
        final int[] third;
        int count;

        Notes(int rows) {
            most = Math.max(rows, 0);
            first = new int[most];
            second = new int[most];
            third = new int[most];
            count = 0;
        }

        boolean has(int i) {
            return i >= 0 && i < count;
        }

        boolean add(int a, int b, int c) {
            if (count >= most) {
                return false;
            }
            first[count] = a;
            second[count] = b;
            third[count] = c;
            count++;
            return true;
        }

        void become(Notes other) {
            int rows = Math.min(other.count, most);
            System.arraycopy(other.first, 0, first, 0, rows);
            System.arraycopy(other.second, 0, second, 0, rows);
            System.arraycopy(other.third, 0, third, 0, rows);
            count = rows;
        }
    }

    /** Clauses, and the code of the two laws: numbers as -1 less them, else what is to be done. */
    private static final class Text {
        final int[] kind = new int[CLAUSES];
        final int[] first = new int[CLAUSES];
        final int[] second = new int[CLAUSES];
        final int[] code = new int[BYTES];
        int clauses;
        int used;
        int takesFrom;
        int takesTo;
        int goesFrom;
        int goesTo;

        Text() {
            wipe();
        }

        private void wipe() {
            clauses = 0;
            used = 0;
            takesFrom = NONE;
            takesTo = NONE;
            goesFrom = NONE;
            goesTo = NONE;
        }

        boolean hasTakes() {
            return takesFrom != NONE;
        }

        boolean hasGoes() {
            return goesFrom != NONE;
        }

        void add(int clause, int a, int b) {
            if (clauses < CLAUSES) {
                kind[clauses] = clause;
                first[clauses] = a;
                second[clauses] = b;
                clauses++;
            }
        }

        /** Each cell of code has a byte of its own on the tape, so that the row is always long enough. */
        int put(int cell) {
            if (used < BYTES) {
                code[used] = cell;
                used++;
            }
            return used - 1;
        }

        /** Lets the jump in a cell lead to where the code goes on now. */
        void land(int cell) {
            if (cell >= 0 && cell < BYTES) {
                code[cell] = used;
            }
        }

        void become(Text other) {
            System.arraycopy(other.kind, 0, kind, 0, CLAUSES);
            System.arraycopy(other.first, 0, first, 0, CLAUSES);
            System.arraycopy(other.second, 0, second, 0, CLAUSES);
            System.arraycopy(other.code, 0, code, 0, BYTES);
            clauses = other.clauses;
            used = other.used;
            takesFrom = other.takesFrom;
            takesTo = other.takesTo;
            goesFrom = other.goesFrom;
            goesTo = other.goesTo;
        }
    }

    /** The tape, and how it is read: each part looks at the token that is next, and the first fault ends it. */
    private static final class Reader {
        final int[] tape = new int[BYTES];
        final Text draft;
        int length;
        int fault;
        int faultAt;
        private final int[] kinds = new int[BYTES + 1];
        private final int[] starts = new int[BYTES + 1];
        private final int[] values = new int[BYTES + 1];
        private int tokens;
        private int token;
        private int kind;
        private int law;

        Reader() {
            draft = new Text();
            fault = NONE;
            faultAt = NONE;
        }

        void append(int four) {
            for (int shift = 24; shift >= 0 && length < BYTES; shift -= 8) {
                tape[length] = four >>> shift & 255;
                length++;
            }
        }

        /** Reads the tape into the draft: whether it has no fault. */
        boolean read() {
            draft.wipe();
            fault = 0;
            faultAt = NONE;
            scan();
            for (int i = 0; i < BYTES && fault == 0 && kind != END; i++) {
                clause();
            }
            return fault == 0;
        }

        private void blame(int number) {
            if (fault == 0) {
                fault = number;
                faultAt = starts[token];
            }
        }

        // ---- tokens

        private void scan() {
            tokens = 0;
            int place = 0;
            for (int i = 0; i < BYTES && place < length; i++) {
                boolean blank = tape[place] == ' ' || tape[place] == NEW_LINE;
                place = blank ? place + 1 : scanToken(place);
            }
            kinds[tokens] = END;
            starts[tokens] = length;
            token = 0;
            kind = kinds[0];
        }

        /** Adds the token that begins at a place: the place behind it. */
        private int scanToken(int start) {
            int sign = tape[start];
            starts[tokens] = start;
            values[tokens] = 0;
            int behind = start + 1;
            if (isLetter(sign)) {
                behind = scanWord(start);
            } else if (isDigit(sign)) {
                behind = scanNumber(start);
            } else if ((sign == '<' || sign == '>') && behind < length && tape[behind] == '=') {
                kinds[tokens] = sign == '<' ? LESS_OR_LIKE : MORE_OR_LIKE;
                behind++;
            } else {
                kinds[tokens] = SIGNS.indexOf((char) sign) >= 0 ? sign : NO_TOKEN;
            }
            tokens++;
            return behind;
        }

        private static boolean isLetter(int sign) {
            return sign >= 'a' && sign <= 'z' || sign >= 'A' && sign <= 'Z';
        }

        private static boolean isDigit(int sign) {
            return sign >= '0' && sign <= '9';
        }

        private int scanWord(int start) {
            int behind = start;
            while (behind < length && isLetter(tape[behind])) {
                behind++;
            }
            kinds[tokens] = NO_TOKEN;
            for (int word = 0; word < WORDS.length() / LONGEST_WORD; word++) {
                if (isWord(word * LONGEST_WORD, start, behind)) {
                    kinds[tokens] = WORD + word;
                    break;
                }
            }
            return behind;
        }

        /** Whether the letters from start on are the word whose columns begin there, and it has no more. */
        private boolean isWord(int begin, int start, int behind) {
            int letters = behind - start;
            if (letters > LONGEST_WORD) {
                return false;
            }
            for (int i = 0; i < letters; i++) {
                if (tape[start + i] != WORDS.charAt(begin + i)) {
                    return false;
                }
            }
            return letters == LONGEST_WORD || WORDS.charAt(begin + letters) == ' ';
        }

        private int scanNumber(int start) {
            int behind = start;
            int value = 0;
            while (behind < length && isDigit(tape[behind])) {
                value = Math.min(value * 10 + tape[behind] - '0', HIGHEST + 1);
                behind++;
            }
            kinds[tokens] = NUMBER;
            values[tokens] = value;
            return behind;
        }

        private void next() {
            if (token < tokens) {
                token++;
            }
            kind = kinds[token];
        }

        private void expect(int wanted) {
            if (kind == wanted) {
                next();
            } else {
                blame(CANT_STAND);
            }
        }

        private int number(int least, int most) {
            if (kind != NUMBER) {
                blame(CANT_STAND);
                return least;
            }
            int value = values[token];
            if (value < least || value > most) {
                blame(NOT_TOLD);
                return least;
            }
            next();
            return value;
        }

        // ---- clauses

        private void clause() {
            int clause = kind;
            if (clause < TAKES || clause > HOUR) {
                blame(CANT_STAND);
            } else if (clause == TAKES && draft.hasTakes() || clause == GOES && draft.hasGoes()) {
                blame(SECOND_LAW);
            } else if (draft.clauses >= CLAUSES) {
                blame(TOO_MANY);
            } else {
                next();
                if (clause == TAKES || clause == GOES) {
                    lawOf(clause);
                } else {
                    deed(clause);
                }
                expect(';');
            }
        }

        private void lawOf(int clause) {
            law = clause;
            int from = draft.used;
            sum(0);
            if (clause == TAKES) {
                draft.takesFrom = from;
                draft.takesTo = draft.used;
            } else {
                draft.goesFrom = from;
                draft.goesTo = draft.used;
            }
            draft.add(clause, 0, 0);
        }

        private void deed(int clause) {
            int first = 0;
            int second = 0;
            switch (clause) {
                case HOUSE:
                    first = number(0, PLACES - 1);
                    expect(DREAM);
                    second = number(0, MOST_DREAM);
                    break;
                case CAT:
                    first = number(0, PLACES - 1);
                    expect(COLD);
                    second = number(0, MOST_COLD);
                    break;
                case LET:
                    first = number(0, CATS - 1);
                    expect(TO);
                    second = number(0, HOUSES - 1);
                    break;
                case OUT:
                    first = number(0, HOUSES - 1);
                    break;
                case HOUR:
                    first = number(1, HOURS_AT_ONCE);
                    break;
                default:
                    first = number(0, CATS - 1);
            }
            draft.add(clause, first, second);
        }

        // ---- sums: each is told how many of ( not turn chill if - are open around it

        private void sum(int open) {
            product(open);
            for (int i = 0; i < BYTES && fault == 0 && (kind == '+' || kind == '-'); i++) {
                int sign = kind;
                next();
                product(open);
                draft.put(sign);
            }
        }

        private void product(int open) {
            one(open);
            for (int i = 0; i < BYTES && fault == 0 && (kind == '*' || kind == '/'); i++) {
                int sign = kind;
                next();
                one(open);
                draft.put(sign);
            }
        }

        private void one(int open) {
            if (fault != 0) {
                return;
            }
            switch (kind) {
                case NUMBER:
                    draft.put(-1 - number(0, HIGHEST));
                    break;
                case '(':
                case '-':
                case TURN:
                case CHILL:
                case IF:
                    if (open >= OPEN) {
                        blame(TOO_DEEP);
                    } else {
                        opened(open + 1);
                    }
                    break;
                default:
                    name();
            }
        }

        private void opened(int open) {
            int opener = kind;
            next();
            switch (opener) {
                case '(':
                    sum(open);
                    expect(')');
                    break;
                case '-':
                    one(open);
                    draft.put(NEGATE);
                    break;
                case TURN:
                    one(open);
                    expect(TO);
                    one(open);
                    draft.put(TURN);
                    break;
                case CHILL:
                    one(open);
                    draft.put(CHILL);
                    break;
                default:
                    choice(open);
            }
        }

        private void choice(int open) {
            either(open);
            expect(THEN);
            draft.put(IF);
            int otherwise = draft.put(0);
            sum(open);
            expect(ELSE);
            draft.put(ELSE);
            int behind = draft.put(0);
            draft.land(otherwise);
            sum(open);
            expect(CLOSE);
            draft.land(behind);
        }

        private void either(int open) {
            both(open);
            for (int i = 0; i < BYTES && fault == 0 && kind == OR; i++) {
                next();
                both(open);
                draft.put(OR);
            }
        }

        private void both(int open) {
            ask(open);
            for (int i = 0; i < BYTES && fault == 0 && kind == AND; i++) {
                next();
                ask(open);
                draft.put(AND);
            }
        }

        private void ask(int open) {
            int nots = 0;
            while (kind == NOT && open + nots < OPEN) {
                nots++;
                next();
            }
            if (kind == NOT) {
                blame(TOO_DEEP);
                return;
            }
            sum(open + nots);
            int asked = kind;
            if (!isComparison(asked)) {
                blame(CANT_STAND);
                return;
            }
            next();
            sum(open + nots);
            draft.put(asked);
            for (int i = 0; i < nots; i++) {
                draft.put(NOT);
            }
        }

        private static boolean isComparison(int sign) {
            return sign == '<' || sign == LESS_OR_LIKE || sign == '>' || sign == MORE_OR_LIKE || sign == '=' || sign == '#';
        }

        private void name() {
            switch (kind) {
                case HOUR:
                case WHO:
                case COLD:
                case TAKEN:
                case PLACE:
                    break;
                case DREAM:
                case CAME:
                    blameUnless(law == TAKES);
                    break;
                case INSIDE:
                    blameUnless(law == GOES);
                    break;
                default:
                    blame(CANT_STAND);
                    return;
            }
            draft.put(kind);
            next();
        }

        private void blameUnless(boolean fits) {
            if (!fits) {
                blame(FOREIGN_NAME);
            }
        }
    }

    /** What a text's laws answer. */
    private static final class Law {
        private final int[] stack = new int[STACK];
        private int top;

        Law() {
            top = 0;
        }

        int taking(Text text, Night night, int cat, int house) {
            if (!night.isCat(cat) || !night.isHouse(house)) {
                return 0;
            }
            if (!text.hasTakes()) {
                return night.cold[cat];
            }
            int says = run(text.code, text.takesFrom, text.takesTo, night, cat, house);
            return Math.max(0, Math.min(MOST_BY_LAW, says));
        }

        int going(Text text, Night night, int cat) {
            if (!night.isCat(cat) || !text.hasGoes()) {
                return 0;
            }
            int says = run(text.code, text.goesFrom, text.goesTo, night, cat, night.home[cat]);
            return Math.max(-MOST_BY_LAW, Math.min(MOST_BY_LAW, says));
        }

        private int run(int[] code, int from, int to, Night night, int cat, int house) {
            int last = Math.min(to, code.length);
            int next = Math.max(from, 0);
            top = 0;
            for (int i = 0; i < BYTES && next < last; i++) {
                int cell = code[next];
                next++;
                if (cell < 0) {
                    push(-1 - cell);
                } else if (cell == IF || cell == ELSE) {
                    boolean jumps = cell == ELSE || pop() == 0;
                    next = jumps && next < last ? Math.max(next, code[next]) : next + 1;
                } else if (isName(cell)) {
                    push(named(cell, night, cat, house));
                } else if (cell == NEGATE || cell == NOT || cell == CHILL) {
                    push(ofOne(cell, pop(), night));
                } else {
                    int right = pop();
                    push(limited(ofTwo(cell, pop(), right)));
                }
            }
            return pop();
        }

        private void push(int value) {
            if (top < STACK) {
                stack[top] = value;
                top++;
            }
        }

        private int pop() {
            if (top <= 0) {
                return 0;
            }
            top--;
            return stack[top];
        }

        private static boolean isName(int cell) {
            return cell == HOUR || cell == DREAM || cell == COLD || cell >= WHO && cell <= INSIDE;
        }

        private static int named(int name, Night night, int cat, int house) {
            switch (name) {
                case HOUR:
                    return night.hour;
                case WHO:
                    return cat;
                case COLD:
                    return night.cold[cat];
                case TAKEN:
                    return night.taken[cat];
                case PLACE:
                    return night.place[cat];
                case INSIDE:
                    return night.home[cat] == NONE ? 0 : 1;
                case DREAM:
                    return night.isHouse(house) ? night.dream[house] : 0;
                default:
                    return night.isHouse(house) ? night.came[house] : 0;
            }
        }

        private static int ofOne(int cell, int value, Night night) {
            if (cell == NEGATE) {
                return -value;
            }
            if (cell == NOT) {
                return 1 - value;
            }
            return night.isCat(value) ? night.cold[value] : 0;
        }

        private static long ofTwo(int cell, long left, long right) {
            switch (cell) {
                case '+':
                    return left + right;
                case '-':
                    return left - right;
                case '*':
                    return left * right;
                case '/':
                    return right == 0 ? 0 : left / right;
                case TURN:
                    return (Math.abs(right) % PLACES - Math.abs(left) % PLACES + PLACES) % PLACES;
                case AND:
                    return left & right;
                case OR:
                    return left | right;
                default:
                    return compares(cell, left, right) ? 1 : 0;
            }
        }

        private static boolean compares(int cell, long left, long right) {
            switch (cell) {
                case '<':
                    return left < right;
                case LESS_OR_LIKE:
                    return left <= right;
                case '>':
                    return left > right;
                case MORE_OR_LIKE:
                    return left >= right;
                case '=':
                    return left == right;
                default:
                    return left != right;
            }
        }

        private static int limited(long value) {
            return (int) Math.max(-LIMIT, Math.min(LIMIT, value));
        }
    }

    /** Pairs of a cat without and a house with none in it, by the steps that are left from each house on with some cats gone. */
    private static final class Pairs {
        private final int[] best = new int[HOUSES + 1 << CATS];
        private final int[] cat = new int[CATS];
        private final int[] house = new int[HOUSES];
        private int cats;
        private int houses;
        private boolean byFarthest;
        int most;

        Pairs() {
            most = 0;
        }

        /** Finds the best pairs, by the farthest one's steps or by all steps together. */
        void settle(Night night, boolean farthest) {
            gather(night);
            byFarthest = farthest;
            most = Math.min(cats, houses);
            for (int gone = 0; gone < 1 << cats; gone++) {
                best[cell(houses, gone)] = Integer.bitCount(gone) == most ? 0 : UNABLE;
            }
            for (int h = houses - 1; h >= 0; h--) {
                for (int gone = 0; gone < 1 << cats; gone++) {
                    best[cell(h, gone)] = least(night, h, gone);
                }
            }
        }

        private void gather(Night night) {
            cats = 0;
            houses = 0;
            for (int n = 0; n < night.cats; n++) {
                if (night.home[n] == NONE) {
                    cat[cats] = n;
                    cats++;
                }
            }
            for (int n = 0; n < night.houses; n++) {
                if (night.guest(n) == NONE) {
                    house[houses] = n;
                    houses++;
                }
            }
        }

        private int least(Night night, int h, int gone) {
            int paired = Integer.bitCount(gone);
            if (paired > h || paired + houses - h < most) {
                return UNABLE;
            }
            int steps = best[cell(h + 1, gone)];
            for (int c = 0; c < cats; c++) {
                if (!hasBit(gone, c)) {
                    steps = Math.min(steps, paired(night, h, gone, c));
                }
            }
            return steps;
        }

        /** The steps from the h-th house on if it gets the c-th cat. */
        private int paired(Night night, int h, int gone, int c) {
            int own = night.away(cat[c], house[h]);
            int rest = best[cell(h + 1, gone | 1 << c)];
            return byFarthest ? Math.max(own, rest) : own + rest;
        }

        /** Where the steps from the h-th house on stand, the cats of some bits being gone. */
        private static int cell(int h, int gone) {
            return (h << CATS) + gone;
        }

        int leastSteps() {
            return best[cell(0, 0)];
        }

        int partner(Night night, int wanted) {
            int gone = 0;
            for (int h = 0; h < houses; h++) {
                int c = chosen(night, h, gone);
                if (house[h] == wanted) {
                    return c == NONE ? NONE : cat[c];
                }
                gone |= c == NONE ? 0 : 1 << c;
            }
            return NONE;
        }

        private int chosen(Night night, int h, int gone) {
            int steps = best[cell(h, gone)];
            if (best[cell(h + 1, gone)] == steps) {
                return NONE;
            }
            for (int c = 0; c < cats; c++) {
                if (!hasBit(gone, c) && paired(night, h, gone, c) == steps) {
                    return c;
                }
            }
            return NONE;
        }
    }

    /** Which cat each sight belongs to. */
    private static final class Tracks {
        final int[] owner = new int[SIGHTS];
        private final int[] friends = new int[SIGHTS];
        private final int[] group = new int[SIGHTS];
        int cats;

        Tracks() {
            cats = 0;
        }

        void follow(Notes sights) {
            int all = sights.count;
            for (int i = 0; i < all; i++) {
                group[i] = 0;
                friends[i] = friendsOf(sights, i);
            }
            cats = 0;
            boolean found = all == 0;
            for (int most = 1; most <= all && !found; most++) {
                cats = most;
                found = assign(this, 0, all, 0, most);
            }
        }

        private static int friendsOf(Notes sights, int i) {
            int bits = 0;
            for (int other = 0; other < sights.count; other++) {
                bits |= canBeOne(sights, i, other) ? 1 << other : 0;
            }
            return bits;
        }

        /** The lowest way to give the sights from the i-th on to at most so many cats, of whom some are in use. */
        private static boolean assign(Tracks tracks, int i, int all, int used, int most) {
            if (i >= all) {
                return true;
            }
            for (int c = 0; c <= used && c < most; c++) {
                if ((tracks.group[c] & ~tracks.friends[i]) == 0) {
                    tracks.owner[i] = c;
                    tracks.group[c] |= 1 << i;
                    if (assign(tracks, i + 1, all, Math.max(used, c + 1), most)) {
                        return true;
                    }
                    tracks.group[c] &= ~(1 << i);
                }
            }
            return false;
        }
    }

    /** The orders in which the pieces of a dream join. */
    private static final class Joins {
        final int[] lowest = new int[PIECES];
        private final int[] order = new int[PIECES];
        int ways;

        Joins() {
            ways = 0;
        }

        void join(Notes pieces) {
            ways = 0;
            extend(this, pieces, 0, 0);
        }

        private static void extend(Joins joins, Notes pieces, int placed, int used) {
            if (placed >= pieces.count) {
                if (joins.ways == 0) {
                    System.arraycopy(joins.order, 0, joins.lowest, 0, PIECES);
                }
                joins.ways++;
                return;
            }
            for (int p = 0; p < pieces.count; p++) {
                if (!hasBit(used, p) && (placed == 0 || follows(pieces, joins.order[placed - 1], p))) {
                    joins.order[placed] = p;
                    extend(joins, pieces, placed + 1, used | 1 << p);
                }
            }
        }

        private static boolean follows(Notes pieces, int ahead, int p) {
            int opening = pieces.second[p] >> pieces.first[p] - 1 & 1;
            return opening == (pieces.second[ahead] & 1);
        }

        /** The bits of the lowest order; those that join, its first bit but for the first piece's, stand once. */
        long whole(Notes pieces) {
            long bits = 0;
            for (int i = 0; i < pieces.count; i++) {
                int p = lowest[i];
                int fresh = i == 0 ? pieces.first[p] : pieces.first[p] - 1;
                bits = bits << fresh | pieces.second[p] & (1 << fresh) - 1;
            }
            return bits;
        }
    }
}
