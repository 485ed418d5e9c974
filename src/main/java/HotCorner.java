/**
 * The hot corner: an oven, a tin that is turned over its spots, cakes on the tin, and what would become of them.
 * What each call answers is told in ../shared/DOC.md, by promises.
 */
public final class HotCorner {
    public static final int NONE = -1, BAD = -2, STATE = -3, FULL = -4;
    public static final long NO = -4611686018427387904L;

    private static final int FIRST_WRONG = -5, SECOND_WRONG = -6, THIRD_WRONG = -7;
    private static final int NOTHING_THERE = -11, OUTSIDE = -12, UNLIKE = -13, BELOW_NONE = -14;

    private static final int SPOTS = 16, MOST_CAKES = 8, MOST_OPENINGS = 6, MOST_TEXTS = 6;
    private static final int SHEETS = 4, MOST_CELLS = 40, MOST_TAPE = 160;
    private static final int HOTTEST = 99, BROWNEST = 999, LONGEST = 40, LAST_SEED = 99999, MOST_SEEDS = 20;
    private static final int MISSING = -1, BYTES = 0, SHORTS = 1, INTS = 2;
    private static final int BROWNS = 0, COOLS = 1, MINDS = 2, PARTS = 3;
    private static final String FIRST_TEXT = "browns heat * 2 ; cools ( since < 3 ) * 5 ; minds 1 ;";

    private final Oven now = new Oven();
    private final Oven thought = new Oven();
    private final Oven kept = new Oven();
    private boolean isKept;
    private final Baking baking = new Baking();
    private final Reader reader = new Reader();
    private final Law[] texts = new Law[MOST_TEXTS];
    private int textCount;
    private final Sheet[] sheets = new Sheet[SHEETS];
    private int leastAt, least;
    private boolean anyWeighed;

    public HotCorner() {
        for (int s = 0; s < SHEETS; s++) {
            sheets[s] = new Sheet();
        }
        for (int i = 0; i < FIRST_TEXT.length(); i++) {
            reader.take(FIRST_TEXT.charAt(i));
        }
        readText();
    }

    // ---- the oven, the law

    public int count(int what) {
        switch (what) {
            case 0: return now.cakes;
            case 1: return now.time;
            case 2: return now.lies;
            case 3: return now.openings;
            case 4: return textCount;
            case 5: return now.law;
            case 6: return reader.size;
            default: return BAD;
        }
    }

    public int set(int what, int of, int v) {
        switch (what) {
            case 0: return setHot(of, v);
            case 1: return setTime(v);
            case 2: return setLies(v);
            default: return FIRST_WRONG;
        }
    }

    private int setHot(int spot, int v) {
        if (!within(spot, 0, SPOTS - 1)) {
            return SECOND_WRONG;
        }
        if (!within(v, 0, HOTTEST)) {
            return THIRD_WRONG;
        }
        int was = now.hot[spot];
        now.hot[spot] = v;
        return was;
    }

    private int setTime(int v) {
        if (!within(v, 1, LONGEST)) {
            return THIRD_WRONG;
        }
        int was = now.time;
        now.time = v;
        return was;
    }

    private int setLies(int v) {
        if (!within(v, 0, 3)) {
            return THIRD_WRONG;
        }
        int was = now.lies;
        now.lies = v;
        return was;
    }

    public int hot(int spot) {
        return within(spot, 0, SPOTS - 1) ? now.hot[spot] : BAD;
    }

    public int spot(int place, int quarters) {
        if (!within(place, 0, SPOTS - 1) || !within(quarters, 0, 3)) {
            return BAD;
        }
        return spotUnder(place, quarters);
    }

    public int feed(int n, int a, int b, int c, int d, int e) {
        if (!within(n, 1, 5) || !isByte(a) || !isByte(b) || !isByte(c) || !isByte(d) || !isByte(e)) {
            return BAD;
        }
        if (n > MOST_TAPE - reader.size) {
            return FULL;
        }
        for (int i = 0; i < n; i++) {
            reader.take(i == 0 ? a : i == 1 ? b : i == 2 ? c : i == 3 ? d : e);
        }
        return reader.size;
    }

    public int text() {
        return textCount >= MOST_TEXTS ? FULL : readText();
    }

    private int readText() {
        boolean good = reader.read();
        int fault = reader.begin;
        reader.size = 0;
        if (!good || textCount >= texts.length) {
            return -100 - fault;
        }
        texts[textCount] = reader.law();
        textCount++;
        return textCount - 1;
    }

    public int force(int t) {
        if (!within(t, 0, textCount - 1)) {
            return BAD;
        }
        int was = now.law;
        now.law = t;
        return was;
    }

    public int asks(int part, int heatMinute, int brown, int cSince) {
        if (!within(part, BROWNS, MINDS) || !within(brown, 0, BROWNEST) || cSince < 0) {
            return BAD;
        }
        int heat = heatMinute / 100;
        int minute = heatMinute % 100;
        if (heatMinute < 0 || heat > HOTTEST || minute >= LONGEST || !isCake(cSince / 100)) {
            return BAD;
        }
        startBaking(now);
        baking.name(cSince / 100, heat, minute, brown, cSince % 100);
        return baking.ask(part);
    }

    // ---- cakes, the plan

    public int cake(int kindMore, int wish, int place) {
        if (!within(kindMore, 0, 59) || !within(wish, 0, BROWNEST) || !within(place, 0, SPOTS - 1)) {
            return BAD;
        }
        if (now.cakeOn(place) != NONE) {
            return STATE;
        }
        if (now.cakes >= MOST_CAKES) {
            return FULL;
        }
        int c = now.cakes;
        now.kind[c] = kindMore / 10;
        now.more[c] = kindMore % 10;
        now.wish[c] = wish;
        now.place[c] = place;
        now.cakes++;
        return c;
    }

    public int move(int c, int place) {
        if (!isCake(c)) {
            return FIRST_WRONG;
        }
        if (!within(place, 0, SPOTS - 1)) {
            return THIRD_WRONG;
        }
        int there = now.cakeOn(place);
        if (there != NONE && there != c) {
            return STATE;
        }
        int was = now.place[c];
        now.place[c] = place;
        return was;
    }

    public int told(int c, int what) {
        if (!isCake(c)) {
            return FIRST_WRONG;
        }
        switch (what) {
            case 0: return now.kind[c];
            case 1: return now.more[c];
            case 2: return now.wish[c];
            case 3: return now.place[c];
            case 4: return baking.kindOf(now.kind[c]).begins(now.more[c]);
            default: return THIRD_WRONG;
        }
    }

    public int open(int minute, int quarters) {
        if (!within(minute, 0, LONGEST - 1) || !within(quarters, 0, 3)) {
            return BAD;
        }
        int k = now.openings;
        if (k > 0 && minute <= now.minute[k - 1]) {
            return STATE;
        }
        if (k >= MOST_OPENINGS) {
            return FULL;
        }
        now.plan(k, minute, quarters);
        return now.openings;
    }

    public int opening(int k, int what) {
        if (!within(k, 0, now.openings - 1)) {
            return FIRST_WRONG;
        }
        if (!within(what, 0, 1)) {
            return THIRD_WRONG;
        }
        return what == 0 ? now.minute[k] : now.quarters[k];
    }

    public int shut() {
        int was = now.openings;
        now.openings = 0;
        return was;
    }

    // ---- baking

    public int at(int c, int minutes) {
        if (!isCake(c)) {
            return FIRST_WRONG;
        }
        if (!within(minutes, 0, now.time)) {
            return THIRD_WRONG;
        }
        bake(now, minutes);
        return baking.brown[c];
    }

    public int end(int what) {
        if (!within(what, 0, 4)) {
            return BAD;
        }
        bake(now, now.time);
        switch (what) {
            case 0: return baking.badness();
            case 1: return baking.apart();
            case 2: return baking.brownest();
            case 3: return baking.palest();
            default: return baking.right();
        }
    }

    public int off(int c, int what) {
        if (!isCake(c)) {
            return FIRST_WRONG;
        }
        if (!within(what, 0, 1)) {
            return THIRD_WRONG;
        }
        bake(now, now.time);
        return what == 0 ? baking.away(c) : baking.badnessOf(c);
    }

    // ---- when to turn, when to take out

    public int when(int goal, int what) {
        if (!within(goal, 0, 1) || !within(what, 0, 1)) {
            return BAD;
        }
        imagine();
        weighNone();
        for (int minute = 0; minute < now.time; minute++) {
            for (int quarters = 0; quarters <= 3; quarters++) {
                thought.plan(0, minute, quarters);
                weigh(100 * minute + quarters, goal == 0 ? apartOf(thought) : badnessOf(thought));
            }
        }
        return lightest(what);
    }

    public int twice(int what) {
        if (!within(what, 0, 1)) {
            return BAD;
        }
        imagine();
        weighNone();
        for (int first = 0; first < now.time; first++) {
            for (int second = first + 1; second < now.time; second++) {
                thought.plan(0, first, 2);
                thought.plan(1, second, 2);
                weigh(100 * first + second, apartOf(thought));
            }
        }
        return lightest(what);
    }

    public int until(int what) {
        if (!within(what, 0, 1)) {
            return BAD;
        }
        startBaking(now);
        weighNone();
        for (int time = 1; time <= LONGEST; time++) {
            baking.step();
            weigh(time, baking.badness());
        }
        return lightest(what);
    }

    public int out(int c, int what) {
        if (!isCake(c)) {
            return FIRST_WRONG;
        }
        if (!within(what, 0, 1)) {
            return THIRD_WRONG;
        }
        weighOut(c);
        return lightest(what);
    }

    private void weighOut(int c) {
        startBaking(now);
        weighNone();
        weigh(0, baking.badnessOf(c));
        for (int minutes = 1; minutes <= now.time; minutes++) {
            baking.step();
            weigh(minutes, baking.badnessOf(c));
        }
    }

    public int singly() {
        int all = 0;
        for (int c = 0; c < now.cakes; c++) {
            weighOut(c);
            all += least;
        }
        return all;
    }

    public int soon(int c, int b) {
        if (!isCake(c)) {
            return FIRST_WRONG;
        }
        if (!within(b, 0, BROWNEST)) {
            return THIRD_WRONG;
        }
        startBaking(now);
        for (int minutes = 0; minutes <= now.time; minutes++) {
            if (baking.brown[c] >= b) {
                return minutes;
            }
            baking.step();
        }
        return NONE;
    }

    public int few(int far) {
        if (!within(far, 0, BROWNEST)) {
            return BAD;
        }
        imagine();
        for (int n = 0; n <= now.openings; n++) {
            thought.openings = n;
            if (apartOf(thought) <= far) {
                return n;
            }
        }
        return NONE;
    }

    public int fan() {
        imagine();
        int all = 0;
        for (int spot = 0; spot < SPOTS; spot++) {
            all += now.hot[spot];
        }
        for (int spot = 0; spot < SPOTS; spot++) {
            thought.hot[spot] = all / SPOTS;
        }
        return badnessOf(now) - badnessOf(thought);
    }

    public int cost() {
        imagine();
        thought.openings = 0;
        return badnessOf(now) - badnessOf(thought);
    }

    // ---- where to lay what

    public int lay(int c, int what) {
        if (!isCake(c)) {
            return FIRST_WRONG;
        }
        if (!within(what, 0, 1)) {
            return THIRD_WRONG;
        }
        imagine();
        weighNone();
        for (int place = 0; place < SPOTS; place++) {
            int there = now.cakeOn(place);
            if (there == NONE || there == c) {
                thought.place[c] = place;
                bake(thought, thought.time);
                weigh(place, baking.badnessOf(c));
            }
        }
        return lightest(what);
    }

    public int swap(int what) {
        if (!within(what, 0, 1)) {
            return BAD;
        }
        imagine();
        weighNone();
        // what is now comes first, so that only a lesser BADNESS goes ahead of it
        weigh(NONE, badnessOf(now));
        for (int one = 0; one < now.cakes; one++) {
            for (int other = one + 1; other < now.cakes; other++) {
                thought.swapPlaces(one, other);
                weigh(10 * one + other, badnessOf(thought));
                thought.swapPlaces(one, other);
            }
        }
        return lightest(what);
    }

    public int which(int what) {
        if (!within(what, 0, 1)) {
            return BAD;
        }
        imagine();
        weighNone();
        for (int quarters = 0; quarters <= 3; quarters++) {
            thought.lies = quarters;
            weigh(quarters, badnessOf(thought));
        }
        return lightest(what);
    }

    // ---- told tins

    public int judge(int s) {
        int refused = refusal(s);
        return refused != 0 ? refused : firstOtherwise(s, now);
    }

    public int how(int s) {
        int refused = refusal(s);
        if (refused != 0) {
            return refused;
        }
        imagine();
        int bits = 0;
        for (int quarters = 0; quarters <= 3; quarters++) {
            thought.lies = quarters;
            bits |= firstOtherwise(s, thought) == NONE ? 1 << quarters : 0;
        }
        return bits;
    }

    public int kinds(int s, int c, int sort) {
        int refused = refusal(s);
        if (refused != 0) {
            return refused;
        }
        if (!isCake(c)) {
            return FIRST_WRONG;
        }
        if (!within(sort, 0, 1)) {
            return THIRD_WRONG;
        }
        imagine();
        int bits = 0;
        for (int v = 0; v <= (sort == 0 ? 5 : 9); v++) {
            if (sort == 0) {
                thought.kind[c] = v;
            } else {
                thought.more[c] = v;
            }
            bits |= firstOtherwise(s, thought) == NONE ? 1 << v : 0;
        }
        return bits;
    }

    public int heats(int s, int spot, int what) {
        int refused = refusal(s);
        if (refused != 0) {
            return refused;
        }
        if (!within(spot, 0, SPOTS - 1)) {
            return SECOND_WRONG;
        }
        if (!within(what, 0, 2)) {
            return THIRD_WRONG;
        }
        imagine();
        int many = 0;
        int low = NONE;
        int high = NONE;
        for (int hot = 0; hot <= HOTTEST; hot++) {
            thought.hot[spot] = hot;
            if (firstOtherwise(s, thought) == NONE) {
                many++;
                low = low == NONE ? hot : low;
                high = hot;
            }
        }
        return what == 0 ? many : what == 1 ? low : high;
    }

    public long turned(int s) {
        if (refusal(s) != 0) {
            return NO;
        }
        imagine();
        long bits = 0;
        for (int minute = 0; minute < now.time; minute++) {
            thought.plan(0, minute, 2);
            bits |= firstOtherwise(s, thought) == NONE ? 1L << minute : 0L;
        }
        return bits;
    }

    public int laws(int s) {
        int refused = refusal(s);
        if (refused != 0) {
            return refused;
        }
        imagine();
        int bits = 0;
        for (int t = 0; t < textCount; t++) {
            thought.law = t;
            bits |= firstOtherwise(s, thought) == NONE ? 1 << t : 0;
        }
        return bits;
    }

    public int film(int s, int minutes) {
        if (!within(s, 0, SHEETS - 1) || !within(minutes, 0, now.time)) {
            return BAD;
        }
        bake(now, minutes);
        sheets[s].become(SHORTS, now.cakes);
        for (int c = 0; c < now.cakes; c++) {
            sheets[s].put(c, baking.brown[c]);
        }
        return now.cakes;
    }

    // ---- ovens by lot

    public int drawn(int seed, int what) {
        if (!within(seed, 0, LAST_SEED) || !within(what, 0, 1)) {
            return BAD;
        }
        imagineDrawn(seed);
        return what == 0 ? badnessOf(thought) : apartOf(thought);
    }

    public long odds(int seed, int seeds, int far, int part) {
        if (!within(seed, 0, LAST_SEED) || !within(seeds, 1, MOST_SEEDS)) {
            return NO;
        }
        if (!within(far, 0, BROWNEST) || !within(part, 0, 1)) {
            return NO;
        }
        int even = 0;
        for (int i = 0; i < seeds; i++) {
            imagineDrawn(seed + i);
            even += apartOf(thought) <= far ? 1 : 0;
        }
        int by = Math.max(1, commonDivisor(even, seeds));
        return (part == 0 ? even : seeds) / by;
    }

    public int image() {
        kept.become(now);
        isKept = true;
        return now.cakes;
    }

    public int back() {
        if (!isKept) {
            return STATE;
        }
        // a CAKE never changes its KIND, MORE or WISH: those that the image has too are as they were
        now.become(kept);
        return now.cakes;
    }

    // ---- the host

    public int sheet(int s, int sort, int n) {
        if (!within(s, 0, SHEETS - 1) || !within(sort, MISSING, INTS)) {
            return BAD;
        }
        if (sort == MISSING) {
            sheets[s].become(MISSING, 0);
            return 1;
        }
        if (n > MOST_CELLS) {
            return BAD;
        }
        if (n < 0) {
            return BELOW_NONE;
        }
        sheets[s].become(sort, n);
        return 1;
    }

    public int cell(int s, int i, int v) {
        if (!within(s, 0, SHEETS - 1)) {
            return BAD;
        }
        if (sheets[s].sort == MISSING) {
            return NOTHING_THERE;
        }
        if (!within(i, 0, sheets[s].size - 1)) {
            return OUTSIDE;
        }
        sheets[s].put(i, v);
        return 1;
    }

    public int copy(int s, int i, int other, int j, int n) {
        if (!within(s, 0, SHEETS - 1) || !within(other, 0, SHEETS - 1)) {
            return BAD;
        }
        Sheet from = sheets[s];
        Sheet to = sheets[other];
        if (from.sort == MISSING || to.sort == MISSING) {
            return NOTHING_THERE;
        }
        if (from.sort != to.sort) {
            return UNLIKE;
        }
        if (i < 0 || j < 0 || n < 0 || n > from.size - i || n > to.size - j) {
            return OUTSIDE;
        }
        System.arraycopy(from.row, i, to.row, j, n);
        return n;
    }

    public int cakesBy(int s, int sort, int at, int n) {
        if (!within(s, 0, SHEETS - 1) || !within(sort, BYTES, INTS) || !within(n, 0, MOST_CAKES)) {
            return BAD;
        }
        Sheet by = sheets[s];
        if (by.sort == MISSING) {
            return NOTHING_THERE;
        }
        if (by.sort != sort) {
            return UNLIKE;
        }
        int came = 0;
        for (int k = 0; k < n; k++) {
            if (at < 0 || at > by.size - 3 * (k + 1)) {
                return OUTSIDE;
            }
            int i = at + 3 * k;
            came += cake(by.cellAt(i), by.cellAt(i + 1), by.cellAt(i + 2)) >= 0 ? 1 : 0;
        }
        return came;
    }

    public int taken(int i, int kind) {
        if (!within(kind, 0, 6)) {
            return BAD;
        }
        if (!within(i, 0, 2 * SPOTS - 1)) {
            return OUTSIDE;
        }
        if (i >= SPOTS) {
            return kind == 6 ? now.hot[i - SPOTS] : UNLIKE;
        }
        int c = now.cakeOn(i);
        if (c == NONE) {
            return NOTHING_THERE;
        }
        return isOf(baking.kindOf(now.kind[c]), kind) ? c : UNLIKE;
    }

    // ---- what the calls share

    private static boolean within(int v, int low, int high) {
        return v >= low && v <= high;
    }

    private static boolean isByte(int v) {
        return within(v, 0, 255);
    }

    private boolean isCake(int c) {
        return within(c, 0, now.cakes - 1);
    }

    private static boolean isOf(Kind one, int kind) {
        switch (kind) {
            case 0: return one != null;
            case 1: return one instanceof Thick;
            case 2: return one instanceof Thin;
            case 3: return one instanceof Frozen;
            case 4: return one instanceof Sugared;
            case 5: return one instanceof Grandfathers;
            default: return false;
        }
    }

    private static int spotUnder(int place, int quarters) {
        int x = place & 3;
        int y = (place >> 2) & 3;
        for (int q = 0; q < quarters; q++) {
            int was = x;
            x = 3 - y;
            y = was;
        }
        return 4 * (y & 3) + (x & 3);
    }

    private static int commonDivisor(int a, int b) {
        int greater = a;
        int lesser = b;
        for (int i = 0; i < 100 && lesser != 0; i++) {
            int rest = greater % lesser;
            greater = lesser;
            lesser = rest;
        }
        return greater;
    }

    private void imagine() {
        thought.become(now);
    }

    private void imagineDrawn(int seed) {
        imagine();
        long lot = seed + 1L;
        for (int spot = 0; spot < SPOTS; spot++) {
            lot = lot * 48271L % 2147483647L;
            thought.hot[spot] = (int) (lot % 30L);
        }
    }

    private void startBaking(Oven oven) {
        Law law = within(oven.law, 0, MOST_TEXTS - 1) ? texts[oven.law] : null;
        baking.start(oven, law);
    }

    private void bake(Oven oven, int minutes) {
        startBaking(oven);
        for (int m = 0; m < minutes; m++) {
            baking.step();
        }
    }

    private int badnessOf(Oven oven) {
        bake(oven, oven.time);
        return baking.badness();
    }

    private int apartOf(Oven oven) {
        bake(oven, oven.time);
        return baking.apart();
    }

    private void weighNone() {
        leastAt = NONE;
        least = NONE;
        anyWeighed = false;
    }

    private void weigh(int at, int v) {
        if (!anyWeighed || v < least) {
            leastAt = at;
            least = v;
            anyWeighed = true;
        }
    }

    private int lightest(int what) {
        return what == 0 ? leastAt : least;
    }

    /** Why the SHEET can't be judged, or 0. */
    private int refusal(int s) {
        if (!within(s, 0, SHEETS - 1)) {
            return BAD;
        }
        if (sheets[s].sort == MISSING) {
            return NOTHING_THERE;
        }
        return sheets[s].size != now.cakes ? BAD : 0;
    }

    private int firstOtherwise(int s, Oven oven) {
        bake(oven, oven.time);
        for (int c = 0; c < oven.cakes; c++) {
            if (sheets[s].cellAt(c) != baking.brown[c]) {
                return c;
            }
        }
        return NONE;
    }

    // ---- the kinds: each tells only in what it differs from the one above

    private static class Kind {
        int gains(int said, int brown, int more) {
            return said;
        }

        int begins(int more) {
            return 0;
        }

        int away(int brown, int wish) {
            return brown > wish ? brown - wish : wish - brown;
        }
    }

    private static class Thick extends Kind {
        int gains(int said, int brown, int more) {
            return super.gains(said, brown, more) * 2 / 3;
        }

        int begins(int more) {
            return super.begins(more) + more / 3;
        }
    }

    private static class Thin extends Kind {
        int gains(int said, int brown, int more) {
            return super.gains(said, brown, more) + more / 2;
        }
    }

    private static final class Frozen extends Thick {
        int begins(int more) {
            return super.begins(more) * 2 + 2;
        }
    }

    private static final class Sugared extends Thin {
        int gains(int said, int brown, int more) {
            int thin = super.gains(said, brown, more);
            return brown > 10 * more + 20 ? 3 * thin : thin;
        }

        int away(int brown, int wish) {
            int thin = super.away(brown, wish);
            return brown > wish ? 2 * thin : thin;
        }
    }

    private static final class Grandfathers extends Kind {
        int away(int brown, int wish) {
            return brown >= wish ? 0 : super.away(brown, wish);
        }
    }

    /** All on which baking depends: as it is, as it is thought to be, or as an image keeps it. */
    private static final class Oven {
        final int[] hot = new int[SPOTS];
        final int[] kind = new int[MOST_CAKES];
        final int[] more = new int[MOST_CAKES];
        final int[] wish = new int[MOST_CAKES];
        final int[] place = new int[MOST_CAKES];
        int cakes;
        final int[] minute = new int[MOST_OPENINGS];
        final int[] quarters = new int[MOST_OPENINGS];
        int openings;
        int time = 20;
        int lies;
        int law;

        Oven() {
            for (int spot = 0; spot < SPOTS; spot++) {
                hot[spot] = 10;
            }
        }

        void become(Oven other) {
            System.arraycopy(other.hot, 0, hot, 0, SPOTS);
            System.arraycopy(other.kind, 0, kind, 0, MOST_CAKES);
            System.arraycopy(other.more, 0, more, 0, MOST_CAKES);
            System.arraycopy(other.wish, 0, wish, 0, MOST_CAKES);
            System.arraycopy(other.place, 0, place, 0, MOST_CAKES);
            cakes = other.cakes;
            System.arraycopy(other.minute, 0, minute, 0, MOST_OPENINGS);
            System.arraycopy(other.quarters, 0, quarters, 0, MOST_OPENINGS);
            openings = other.openings;
            time = other.time;
            lies = other.lies;
            law = other.law;
        }

        int cakeOn(int at) {
            for (int c = 0; c < cakes; c++) {
                if (place[c] == at) {
                    return c;
                }
            }
            return NONE;
        }

        void swapPlaces(int one, int other) {
            int was = place[one];
            place[one] = place[other];
            place[other] = was;
        }

        /** Opening k is the last one then. */
        void plan(int k, int at, int by) {
            minute[k] = at;
            quarters[k] = by;
            openings = k + 1;
        }
    }

    /** One baking of an oven, minute by minute. */
    private static final class Baking {
        final int[] brown = new int[MOST_CAKES];
        private final Kind[] kinds = {
            new Kind(), new Thick(), new Thin(), new Frozen(), new Sugared(), new Grandfathers()
        };
        private final int[] named = new int[Law.NAMED];
        private Oven oven;
        private Law law;
        private int minute, lies, last, next;

        Kind kindOf(int kind) {
            return within(kind, 0, kinds.length - 1) ? kinds[kind] : kinds[0];
        }

        void start(Oven baked, Law by) {
            oven = baked;
            law = by;
            minute = 0;
            lies = baked.lies;
            last = NONE;
            next = 0;
            for (int c = 0; c < MOST_CAKES; c++) {
                brown[c] = 0;
            }
        }

        void step() {
            if (oven == null) {
                return;
            }
            if (next < oven.openings && oven.minute[next] == minute) {
                lies = (lies + oven.quarters[next]) & 3;
                last = minute;
                next++;
            }
            for (int c = 0; c < oven.cakes; c++) {
                bakeOne(c);
            }
            minute++;
        }

        private void bakeOne(int c) {
            int since = last == NONE ? minute : minute - last;
            int heat = oven.hot[spotUnder(oven.place[c], lies)];
            if (last != NONE) {
                name(c, heat, minute, brown[c], since);
                heat = Math.max(0, heat - ask(COOLS));
            }
            Kind kind = kindOf(oven.kind[c]);
            if (minute < kind.begins(oven.more[c])) {
                return;
            }
            name(c, heat, minute, brown[c], since);
            int gained = Math.max(0, kind.gains(ask(BROWNS), brown[c], oven.more[c]));
            brown[c] = Math.min(BROWNEST, brown[c] + gained);
        }

        /** What the names in a text stand for, till others are named. */
        void name(int c, int heat, int atMinute, int soBrown, int since) {
            named[0] = heat;
            named[1] = atMinute;
            named[2] = soBrown;
            named[3] = oven == null ? 0 : oven.more[c];
            named[4] = since;
            named[5] = oven == null ? 0 : oven.openings;
        }

        int ask(int part) {
            return law == null ? 0 : law.says(part, named);
        }

        int away(int c) {
            return oven == null ? 0 : kindOf(oven.kind[c]).away(brown[c], oven.wish[c]);
        }

        int badnessOf(int c) {
            name(c, 0, 0, brown[c], 0);
            return away(c) * ask(MINDS);
        }

        private int cakes() {
            return oven == null ? 0 : oven.cakes;
        }

        int badness() {
            int all = 0;
            for (int c = 0; c < cakes(); c++) {
                all += badnessOf(c);
            }
            return all;
        }

        int brownest() {
            int most = NONE;
            for (int c = 0; c < cakes(); c++) {
                if (most == NONE || brown[c] > brown[most]) {
                    most = c;
                }
            }
            return most;
        }

        int palest() {
            int least = NONE;
            for (int c = 0; c < cakes(); c++) {
                if (least == NONE || brown[c] < brown[least]) {
                    least = c;
                }
            }
            return least;
        }

        int apart() {
            return cakes() == 0 ? 0 : brown[brownest()] - brown[palest()];
        }

        int right() {
            int many = 0;
            for (int c = 0; c < cakes(); c++) {
                many += away(c) == 0 ? 1 : 0;
            }
            return many;
        }
    }

    /**
     * A text as steps of a stack: a number (0 or more) is put on it; any other step is minus the token
     * that it comes from, and takes what it joins from the stack.
     */
    private static final class Law {
        static final int END = 0, WRONG = 1, NUMBER = 2, NEGATIVE = 3;
        static final int KEYS = 100, OR = 103, AND = 104, NOT = 105, NAMES = 106, NAMED = 6, WORDS = 12;

        private final int[] steps;
        private final int[] starts = new int[PARTS + 1];
        private final int[] stack;
        private int height;

        Law(int[] steps, int stepCount, int[] starts) {
            int size = Math.max(0, Math.min(stepCount, steps.length));
            this.steps = new int[size];
            this.stack = new int[size];
            for (int i = 0; i < size; i++) {
                this.steps[i] = steps[i];
            }
            for (int part = 0; part <= PARTS && part < starts.length; part++) {
                this.starts[part] = starts[part];
            }
        }

        int says(int part, int[] named) {
            height = 0;
            for (int i = Math.max(0, starts[part]); i < starts[part + 1] && i < steps.length; i++) {
                int step = steps[i];
                if (step >= 0) {
                    push(step);
                } else if (step <= -NAMES) {
                    int name = -step - NAMES;
                    push(name < named.length ? named[name] : 0);
                } else if (step == -NEGATIVE) {
                    push(-pop());
                } else if (step == -NOT) {
                    push(pop() == 0 ? 1 : 0);
                } else {
                    int right = pop();
                    push(joined(-step, pop(), right));
                }
            }
            return Math.max(0, Math.min(99, pop()));
        }

        private static int joined(int sign, int left, int right) {
            switch (sign) {
                case '+': return left + right;
                case '-': return left - right;
                case '*': return left * right;
                case '<': return left < right ? 1 : 0;
                case '=': return left == right ? 1 : 0;
                case OR: return left != 0 || right != 0 ? 1 : 0;
                case AND: return left != 0 && right != 0 ? 1 : 0;
                default: return 0;
            }
        }

        private void push(int v) {
            if (height < stack.length) {
                stack[height] = v;
                height++;
            }
        }

        private int pop() {
            if (height <= 0) {
                return 0;
            }
            height--;
            return stack[height];
        }
    }

    /**
     * Reads the tape token by token. A rule that refuses leaves the token that can't stand there as the
     * one at hand, so that where that begins is the fault.
     */
    private static final class Reader {
        private static final int MOST_OPEN = 5, MOST_DIGITS = 4;

        int size;
        int begin;
        private final int[] tape = new int[MOST_TAPE];
        private final int[] steps = new int[MOST_TAPE];
        private final int[] starts = new int[PARTS + 1];
        private int stepCount, token, number, next, open;

        void take(int b) {
            if (size < tape.length) {
                tape[size] = b;
                size++;
            }
        }

        private int byteAt(int i) {
            return i >= 0 && i < size && i < tape.length ? tape[i] : NONE;
        }

        boolean read() {
            stepCount = 0;
            open = 0;
            next = 0;
            advance();
            for (int part = 0; part < PARTS; part++) {
                starts[part] = stepCount;
                if (token != Law.KEYS + part) {
                    return false;
                }
                advance();
                if (!readOr() || token != ';') {
                    return false;
                }
                advance();
            }
            starts[PARTS] = stepCount;
            return token == Law.END;
        }

        Law law() {
            return new Law(steps, stepCount, starts);
        }

        private void add(int step) {
            if (stepCount < steps.length) {
                steps[stepCount] = step;
                stepCount++;
            }
        }

        // ---- tokens

        private void advance() {
            begin = next;
            while (begin < size && (byteAt(begin) == ' ' || byteAt(begin) == 10)) {
                begin++;
            }
            int b = byteAt(begin);
            if (b == NONE) {
                token = Law.END;
            } else if (b >= 'a' && b <= 'z') {
                readWord();
            } else if (b >= '0' && b <= '9') {
                readNumber();
            } else {
                readSign(b);
            }
        }

        private int endOf(char low, char high) {
            int i = begin;
            while (i < size && byteAt(i) >= low && byteAt(i) <= high) {
                i++;
            }
            return i;
        }

        private void readWord() {
            next = endOf('a', 'z');
            token = Law.WRONG;
            for (int k = 0; k < Law.WORDS; k++) {
                if (isHere(word(k))) {
                    token = Law.KEYS + k;
                }
            }
        }

        private void readNumber() {
            next = endOf('0', '9');
            token = next - begin > MOST_DIGITS ? Law.WRONG : Law.NUMBER;
            number = 0;
            for (int i = begin; i < next && token == Law.NUMBER; i++) {
                number = 10 * number + byteAt(i) - '0';
            }
        }

        private void readSign(int b) {
            next = begin + 1;
            switch (b) {
                case '(': case ')': case ';': case '+': case '-': case '*': case '<': case '=':
                    token = b;
                    break;
                default:
                    token = Law.WRONG;
            }
        }

        private boolean isHere(String word) {
            if (word.length() != next - begin) {
                return false;
            }
            for (int i = 0; i < word.length(); i++) {
                if (word.charAt(i) != byteAt(begin + i)) {
                    return false;
                }
            }
            return true;
        }

        private static String word(int k) {
            switch (k) {
                case 0: return "browns";
                case 1: return "cools";
                case 2: return "minds";
                case 3: return "or";
                case 4: return "and";
                case 5: return "not";
                case 6: return "heat";
                case 7: return "minute";
                case 8: return "brown";
                case 9: return "more";
                case 10: return "since";
                default: return "openings";
            }
        }

        // ---- rules; no text has more tokens than the tape has bytes, so its size bounds their loops

        private boolean readOr() {
            boolean good = readAnd();
            for (int i = 0; i < size && good && token == Law.OR; i++) {
                advance();
                good = readAnd();
                add(-Law.OR);
            }
            return good;
        }

        private boolean readAnd() {
            boolean good = readNot();
            for (int i = 0; i < size && good && token == Law.AND; i++) {
                advance();
                good = readNot();
                add(-Law.AND);
            }
            return good;
        }

        private boolean readNot() {
            if (token != Law.NOT) {
                return readCompared();
            }
            if (open >= MOST_OPEN) {
                return false;
            }
            open++;
            advance();
            boolean good = readNot();
            open--;
            add(-Law.NOT);
            return good;
        }

        private boolean readCompared() {
            boolean good = readSum();
            int sign = token;
            if (good && (sign == '<' || sign == '=')) {
                advance();
                good = readSum();
                add(-sign);
            }
            return good;
        }

        private boolean readSum() {
            boolean good = readTerm();
            for (int i = 0; i < size && good && (token == '+' || token == '-'); i++) {
                int sign = token;
                advance();
                good = readTerm();
                add(-sign);
            }
            return good;
        }

        private boolean readTerm() {
            boolean good = readOne();
            for (int i = 0; i < size && good && token == '*'; i++) {
                advance();
                good = readOne();
                add(-'*');
            }
            return good;
        }

        private boolean readOne() {
            if (token == Law.NUMBER) {
                add(number);
                advance();
                return true;
            }
            if (token >= Law.NAMES) {
                add(-token);
                advance();
                return true;
            }
            if ((token != '-' && token != '(') || open >= MOST_OPEN) {
                return false;
            }
            return token == '-' ? readNegative() : readInner();
        }

        private boolean readNegative() {
            open++;
            advance();
            boolean good = readOne();
            open--;
            add(-Law.NEGATIVE);
            return good;
        }

        private boolean readInner() {
            open++;
            advance();
            boolean good = readOr() && token == ')';
            open--;
            if (good) {
                advance();
            }
            return good;
        }
    }

    /** A row of numbers, or none; its own array is as long as any row can be. */
    private static final class Sheet {
        final int[] row = new int[MOST_CELLS];
        int sort = MISSING;
        int size;

        void become(int newSort, int newSize) {
            sort = newSort;
            size = newSize;
            for (int i = 0; i < row.length; i++) {
                row[i] = 0;
            }
        }

        int cellAt(int i) {
            return i >= 0 && i < row.length ? row[i] : 0;
        }

        void put(int i, int v) {
            if (i >= 0 && i < row.length) {
                row[i] = sort == BYTES ? (byte) v : sort == SHORTS ? (short) v : v;
            }
        }
    }
}
