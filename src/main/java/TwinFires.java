import java.util.Arrays;

/** Hills, what stands between them, and sets of fires of which each sees just one other. */
public final class TwinFires {
    public static final int NONE = -1, BAD = -2, NO = -3, FULL = -4;

    private static final int HILLS = 10, THINGS = 8, HOURS = 12, LETTERS = 8, BYTES = 240;
    private static final int SETS = 1 << HILLS;
    private static final int PLACES = 20, TALLEST = 99, GROWN = 9, DEAREST = 99, WORST = 9;
    private static final int YEAR = 0, MIST = 1, WIDE = 2, TRUTH = 3;
    private static final int TRUTHS = 10;
    private static final int VIEW_HOURS = 6, REACH_HOURS = 99;
    private static final int BAD_ROW = -10, NO_ROW = -20, BEHIND = -5, UNREACHED = -6;
    private static final int BAD_PART = -1000000;
    private static final int FAULT = -10, REFUSED_ITEM = -1000;
    private static final int[] LEAST = {0, 0, 0, 1};
    private static final int[] GREATEST = {99, 99, 3, 10};

    private Land here;
    private Land draft;
    private final Land[] kept;
    private final Text text;
    private final Eyes eyes;
    private final Rows rows;
    private final int[] refused;
    private long above;
    private long below;

    public TwinFires() {
        here = new Land();
        draft = new Land();
        kept = new Land[2];
        text = new Text();
        eyes = new Eyes();
        rows = new Rows();
        refused = new int[3];
        above = 0;
        below = 1;
    }

    // ---- a land

    public int hill(int x, int y, int height) {
        return counted(here.addHill(x, y, height));
    }

    public int thing(int kind, int x, int y, int h, int g) {
        return counted(here.addThing(kind, x, y, h, g));
    }

    public int put(int what, int v) {
        return counted(here.setDial(what, v));
    }

    public int work(int thing, boolean done) {
        if (!here.hasThing(thing) || !here.stones[thing].isWorkable()) {
            return counted(BAD);
        }
        int wanted = done ? 1 : 0;
        if (here.done[thing] == wanted) {
            return counted(NO);
        }
        here.done[thing] = wanted;
        return 1;
    }

    public int cost(int thing, int v) {
        if (!here.hasThing(thing) || !isWithin(v, 0, DEAREST)) {
            return counted(BAD);
        }
        int was = here.cost[thing];
        here.cost[thing] = v;
        return was;
    }

    public int high(int thing) {
        return here.hasThing(thing) ? here.standing(thing, here.dial[YEAR]) : counted(BAD);
    }

    public int sight(int a, int b) {
        if (!here.hasHill(a) || !here.hasHill(b) || a == b) {
            return counted(BAD);
        }
        lookNow();
        return (eyes.view[a] >> b) & 1;
    }

    public int clear(int a, int b, int thing) {
        if (!here.hasHill(a) || !here.hasHill(b) || !here.hasThing(thing)) {
            return counted(BAD);
        }
        Line line = eyes.line;
        line.draw(here, a, b);
        Stone stone = here.stones[thing];
        if (!line.isBetween(stone.x, stone.y)) {
            return counted(NO);
        }
        setFraction(line.over(stone.x, stone.y, here.standing(thing, here.dial[YEAR])), line.square);
        return 1;
    }

    public int type(long v, int n) {
        return counted(text.add(v, n));
    }

    public int clearText() {
        int had = text.length;
        text.length = 0;
        return had;
    }

    public int land() {
        draft.copyFrom(here);
        draft.forget();
        text.rewind();
        int items = 0;
        int refusedItem = NONE;
        int item = text.nextItem();
        // Behind a refused ITEM it is read on, as a FAULT anywhere is told ahead of that.
        while (item >= 0 && items < BYTES) {
            if (refusedItem == NONE && draft.tellItem(item, text.numbers) < 0) {
                refusedItem = items;
            }
            items++;
            item = text.nextItem();
        }
        if (item != NONE) {
            return item;
        }
        if (refusedItem != NONE) {
            return REFUSED_ITEM - refusedItem;
        }
        Land old = here;
        here = draft;
        draft = old;
        return items;
    }

    // ---- sets

    public int sees(int hill, int set) {
        if (!here.hasHill(hill) || !here.hasSet(set)) {
            return counted(BAD);
        }
        lookNow();
        return eyes.view[hill] & set;
    }

    public int judge(int set, int what) {
        if (!here.hasSet(set) || !isWithin(what, 0, 1)) {
            return counted(BAD);
        }
        lookNow();
        int wrong = eyes.firstWrong(set);
        return wrong == NONE || what == 0 ? wrong : Integer.bitCount(eyes.view[wrong] & set);
    }

    public int most(int hill, int what) {
        if (hill != NONE && !here.hasHill(hill) || !isWithin(what, 0, 1)) {
            return counted(BAD);
        }
        gatherNow();
        int best = rows.fullest(hill == NONE ? 0 : 1 << hill);
        if (best == NONE) {
            return counted(NO);
        }
        return what == 0 ? Integer.bitCount(best) : best;
    }

    public int lawful(int n) {
        if (!isWithin(n, NONE, HILLS)) {
            return counted(BAD);
        }
        gatherNow();
        return n == NONE ? rows.found : rows.ofFires(n);
    }

    public int years(int set) {
        if (!here.hasSet(set)) {
            return counted(BAD);
        }
        int bits = 0;
        for (int k = 0; k < 10; k++) {
            eyes.gather(here, Math.min(GREATEST[YEAR], here.dial[YEAR] + k));
            eyes.veil(here, here.dial[MIST], 0);
            bits |= eyes.firstWrong(set) == NONE ? 1 << k : 0;
        }
        return bits;
    }

    public int mist(int hour, int v) {
        if (!isWithin(hour, 0, HOURS - 1) || !isWithin(v, 0, GREATEST[MIST])) {
            return counted(BAD);
        }
        int was = here.mists[hour];
        here.mists[hour] = v;
        return was;
    }

    public int hours(int set) {
        if (!here.hasSet(set)) {
            return counted(BAD);
        }
        eyes.gather(here, here.dial[YEAR]);
        int bits = 0;
        for (int hour = 0; hour < HOURS; hour++) {
            bits |= isLawfulIn(hour, set) ? 1 << hour : 0;
        }
        return bits;
    }

    public int fewest(int set, int what) {
        return worksFor(set, what, false);
    }

    public int cheapest(int set, int what) {
        return worksFor(set, what, true);
    }

    public int tower(int hill) {
        if (!here.hasHill(hill)) {
            return counted(BAD);
        }
        return eyes.leastTower(here, hill);
    }

    public int row(int from, int to, int i) {
        if (!here.hasSet(from) || !here.hasSet(to) || i < NONE) {
            return countedAs(BAD, BAD_ROW);
        }
        gatherNow();
        if (!isLawfulNow(from) || !isLawfulNow(to)) {
            return countedAs(NO, NO_ROW);
        }
        // Hours are told from the end, so that each step of the row can choose the least SET that is nearer.
        rows.spread(to);
        int hours = rows.hours[from];
        if (hours == NONE) {
            return UNREACHED;
        }
        if (i == NONE) {
            return hours;
        }
        return i > hours ? BEHIND : rows.nearer(from, i);
    }

    public int reach(int from, int n) {
        if (!here.hasSet(from) || !isWithin(n, 0, REACH_HOURS)) {
            return counted(BAD);
        }
        gatherNow();
        if (!isLawfulNow(from)) {
            return counted(NO);
        }
        rows.spread(from);
        return rows.within(n);
    }

    public int words(int from, int town, int n) {
        if (!here.hasSet(from) || !here.hasHill(town) || !isWithin(n, 0, VIEW_HOURS)) {
            return counted(BAD);
        }
        gatherNow();
        if (!isLawfulNow(from)) {
            return counted(NO);
        }
        rows.spread(from);
        return rows.viewsWithin(n, eyes.townView(town));
    }

    public int byMists(int from, int to, int i) {
        if (!here.hasSet(from) || !here.hasSet(to) || !isWithin(i, NONE, HOURS - 1)) {
            return countedAs(BAD, BAD_ROW);
        }
        eyes.gather(here, here.dial[YEAR]);
        if (!isLawfulIn(0, from)) {
            return countedAs(NO, NO_ROW);
        }
        int last = rows.followMists(here, eyes, from, to);
        if (last == NONE) {
            return UNREACHED;
        }
        if (i == NONE) {
            return last;
        }
        return i > last ? BEHIND : rows.inHour(here, from, to, last, i);
    }

    public int letter(int n) {
        if (!isWithin(n, 0, 9)) {
            return counted(BAD);
        }
        if (here.letters >= LETTERS) {
            return counted(FULL);
        }
        here.word[here.letters] = n;
        here.letters++;
        return here.letters;
    }

    public int unword() {
        int had = here.letters;
        here.letters = 0;
        return had;
    }

    public int toldIn(int from, int town) {
        if (!here.hasSet(from) || !here.hasHill(town)) {
            return countedAs(BAD, BAD_ROW);
        }
        gatherNow();
        if (!isLawfulNow(from)) {
            return countedAs(NO, NO_ROW);
        }
        return rows.hoursToRead(here, from, eyes.townView(town));
    }

    // ---- keepers, nights

    public int report(int hill, int n) {
        if (!here.hasHill(hill) || !isWithin(n, NONE, HILLS - 1)) {
            return countedAs(BAD, BAD_ROW);
        }
        int was = here.report[hill];
        here.report[hill] = n;
        return was;
    }

    public int blame(int hill, int v) {
        if (!here.hasHill(hill) || !isWithin(v, 0, WORST)) {
            return counted(BAD);
        }
        int was = here.blame[hill];
        here.blame[hill] = v;
        return was;
    }

    public int without(int set) {
        if (!here.hasSet(set)) {
            return counted(BAD);
        }
        lookNow();
        if (!isLawfulNow(set)) {
            return counted(NO);
        }
        return suspects(set);
    }

    public int chance(int set, int hill) {
        if (!here.hasSet(set) || !here.hasHill(hill)) {
            return counted(BAD);
        }
        lookNow();
        if (!isLawfulNow(set)) {
            return counted(NO);
        }
        int these = suspects(set);
        int all = 0;
        for (int one = 0; one < here.hills; one++) {
            all += isIn(one, these) ? here.blame[one] : 0;
        }
        if (all == 0) {
            return counted(NO);
        }
        setFraction(isIn(hill, these) ? here.blame[hill] : 0, all);
        return 1;
    }

    public int lies(int set, int hill) {
        if (!here.hasSet(set) || !here.hasHill(hill) || isIn(hill, set)) {
            return counted(BAD);
        }
        lookNow();
        if (!isLawfulNow(set)) {
            return counted(NO);
        }
        long all = 0;
        for (int one = 0; one < here.hills; one++) {
            all += isIn(one, set) ? 0 : weight(set, one);
        }
        if (all == 0) {
            return counted(NO);
        }
        setFraction(weight(set, hill), all);
        return 1;
    }

    public int tell(int hour, int hill, int how) {
        boolean nothing = hill == NONE && how == 0;
        boolean change = here.hasHill(hill) && isWithin(how, 0, 1);
        if (!isWithin(hour, 0, HOURS - 1) || !nothing && !change) {
            return counted(BAD);
        }
        here.nightHill[hour] = hill;
        here.nightHow[hour] = how;
        return 1;
    }

    public int night(int set, int what) {
        if (!here.hasSet(set) || !isWithin(what, 0, 2)) {
            return counted(BAD);
        }
        eyes.gather(here, here.dial[YEAR]);
        int lit = set;
        int first = NONE;
        int good = 0;
        for (int hour = 0; hour < HOURS; hour++) {
            int change = here.nightChange(hour);
            boolean isLit = (lit & change) != 0;
            if (change != 0 && isLit == (here.nightHow[hour] == 1)) {
                return counted(NO);
            }
            lit ^= change;
            if (isLawfulIn(hour, lit)) {
                good++;
            } else if (first == NONE) {
                first = hour;
            }
        }
        if (what == 0) {
            return first;
        }
        return what == 1 ? good : lit;
    }

    // ---- what there is

    public long part(int what) {
        if (!isWithin(what, 0, 1)) {
            return countedAs(BAD, BAD_PART);
        }
        return what == 0 ? above : below;
    }

    public int image(int i) {
        if (!isWithin(i, 0, kept.length - 1)) {
            return counted(BAD);
        }
        if (kept[i] == null) {
            kept[i] = new Land();
        }
        kept[i].copyFrom(here);
        return 1;
    }

    public int from(int i) {
        if (!isWithin(i, 0, kept.length - 1)) {
            return counted(BAD);
        }
        if (kept[i] == null) {
            return counted(NO);
        }
        here.copyFrom(kept[i]);
        return 1;
    }

    public int status(int what) {
        return isWithin(what, 0, 2) ? refused[what] : countedAs(BAD, NONE);
    }

    public int count(int what) {
        switch (what) {
            case 0: return here.hills;
            case 1: return here.things;
            case 2: return text.length;
            case 3: return here.reports();
            case 4: return here.letters;
            default: return counted(BAD);
        }
    }

    public long digest() {
        long h = 619;
        h = mixed(h, here.hills);
        h = mixed(h, here.things);
        h = mixed(h, text.length);
        h = mixed(h, here.reports());
        h = mixed(h, here.letters);
        h = here.digestOfHills(h);
        h = here.digestOfThings(h);
        h = here.digestOfTimes(h);
        h = mixed(h, above);
        return mixed(h, below);
    }

    // ---- what the calls share

    private static boolean isWithin(int v, int least, int greatest) {
        return v >= least && v <= greatest;
    }

    private static boolean isIn(int hill, int set) {
        return ((set >> hill) & 1) != 0;
    }

    private static long mixed(long h, long v) {
        return 31 * h + v;
    }

    /** Passes an answer on; one that is a refusal comes to STATUS. */
    private int counted(int answer) {
        return countedAs(answer, answer);
    }

    /** Some calls answer a refusal by another number than its reason. */
    private int countedAs(int reason, int answer) {
        int place = BAD - reason;
        if (isWithin(place, 0, refused.length - 1)) {
            refused[place]++;
        }
        return answer;
    }

    private void lookNow() {
        eyes.gather(here, here.dial[YEAR]);
        eyes.veil(here, here.dial[MIST], 0);
    }

    /** Not by lookNow, as calls go only so deep. */
    private void gatherNow() {
        eyes.gather(here, here.dial[YEAR]);
        eyes.veil(here, here.dial[MIST], 0);
        rows.gather(eyes, here.hills);
    }

    /** By what was looked at last: lookNow or gatherNow comes ahead. */
    private boolean isLawfulNow(int set) {
        return eyes.firstWrong(set) == NONE;
    }

    /** By the MIST of an hour: the eyes gather ahead of it. */
    private boolean isLawfulIn(int hour, int set) {
        eyes.veil(here, here.mists[hour], 0);
        return eyes.firstWrong(set) == NONE;
    }

    private int worksFor(int set, int what, boolean byCost) {
        if (!here.hasSet(set) || !isWithin(what, 0, 1)) {
            return counted(BAD);
        }
        eyes.gather(here, here.dial[YEAR]);
        int can = here.workable();
        int best = NONE;
        int least = 0;
        for (int works = 0; works <= can; works++) {
            if ((works & ~can) != 0) {
                continue;
            }
            int price = here.price(works, byCost);
            if (best != NONE && price >= least) {
                continue;
            }
            eyes.veil(here, here.dial[MIST], works);
            if (eyes.firstWrong(set) == NONE) {
                best = works;
                least = price;
            }
        }
        return best == NONE || what == 1 ? best : least;
    }

    private int suspects(int set) {
        int bits = 0;
        for (int hill = 0; hill < here.hills; hill++) {
            bits |= !isIn(hill, set) && isAsReported(set | 1 << hill) ? 1 << hill : 0;
        }
        return bits;
    }

    private boolean isAsReported(int lit) {
        for (int keeper = 0; keeper < here.hills; keeper++) {
            if (here.report[keeper] != NONE && !isTrue(keeper, lit)) {
                return false;
            }
        }
        return true;
    }

    private boolean isTrue(int keeper, int lit) {
        return here.report[keeper] == Integer.bitCount(eyes.view[keeper] & lit);
    }

    /** At most 9 times 10 to the 10th, so that ten of these fit in a long. */
    private long weight(int set, int hill) {
        int lit = set | 1 << hill;
        long product = here.blame[hill];
        for (int keeper = 0; keeper < here.hills; keeper++) {
            if (here.report[keeper] != NONE) {
                product *= isTrue(keeper, lit) ? here.dial[TRUTH] : TRUTHS - here.dial[TRUTH];
            }
        }
        return product;
    }

    /** The divisor is above 0. */
    private void setFraction(long up, long down) {
        long a = Math.abs(up);
        long b = down;
        for (int step = 0; step < 200 && b != 0; step++) {
            long rest = a % b;
            a = b;
            b = rest;
        }
        if (a > 0) {
            above = up / a;
            below = down / a;
        }
    }

    // ---- KINDS

    /** What stands in the land; it never changes, so that images may share it. */
    private static class Stone {
        final int kind;
        final int x;
        final int y;
        final int h;
        final int g;

        Stone(int kind, int x, int y, int h, int g) {
            this.kind = kind;
            this.x = x;
            this.y = y;
            this.h = h;
            this.g = g;
        }

        int stands(int year, boolean done) {
            return h;
        }

        boolean isWorkable() {
            return false;
        }
    }

    private static class Wood extends Stone {
        Wood(int kind, int x, int y, int h, int g) {
            super(kind, x, y, h, g);
        }

        @Override
        int stands(int year, boolean done) {
            return done ? 0 : Math.min(TALLEST, h + grownBy(year));
        }

        int grownBy(int year) {
            return g * year;
        }

        @Override
        boolean isWorkable() {
            return true;
        }
    }

    private static class Pine extends Wood {
        Pine(int kind, int x, int y, int h, int g) {
            super(kind, x, y, h, g);
        }

        @Override
        int grownBy(int year) {
            return 2 * g * year;
        }
    }

    private static final class Hedge extends Wood {
        Hedge(int kind, int x, int y, int h, int g) {
            super(kind, x, y, h, g);
        }

        @Override
        int grownBy(int year) {
            return g * (year % 5);
        }
    }

    private static final class Topped extends Pine {
        Topped(int kind, int x, int y, int h, int g) {
            super(kind, x, y, h, g);
        }

        @Override
        int stands(int year, boolean done) {
            return super.stands(year, done) / 2;
        }
    }

    private static final class Wall extends Stone {
        Wall(int kind, int x, int y, int h, int g) {
            super(kind, x, y, h, g);
        }

        @Override
        int stands(int year, boolean done) {
            return done ? h : 0;
        }

        @Override
        boolean isWorkable() {
            return true;
        }
    }

    // ---- THE LAND

    /** All that an image keeps. */
    private static final class Land {
        static final int STONE = 0, WOOD = 1, PINE = 2, HEDGE = 3, TOPPED = 4, WALL = 5;

        int hills;
        final int[] x = new int[HILLS];
        final int[] y = new int[HILLS];
        final int[] height = new int[HILLS];
        final int[] report = new int[HILLS];
        final int[] blame = new int[HILLS];
        int things;
        final Stone[] stones = new Stone[THINGS];
        final int[] done = new int[THINGS];
        final int[] cost = new int[THINGS];
        final int[] dial = new int[4];
        final int[] mists = new int[HOURS];
        int letters;
        final int[] word = new int[LETTERS];
        final int[] nightHill = new int[HOURS];
        final int[] nightHow = new int[HOURS];

        Land() {
            dial[TRUTH] = 9;
            Arrays.fill(nightHill, NONE);
            // A place that is still free holds a stone too, so that no element is ever null.
            Stone pebble = new Stone(STONE, 0, 0, 0, 0);
            for (int i = 0; i < THINGS; i++) {
                stones[i] = pebble;
            }
        }

        void copyFrom(Land other) {
            hills = other.hills;
            System.arraycopy(other.x, 0, x, 0, HILLS);
            System.arraycopy(other.y, 0, y, 0, HILLS);
            System.arraycopy(other.height, 0, height, 0, HILLS);
            System.arraycopy(other.report, 0, report, 0, HILLS);
            System.arraycopy(other.blame, 0, blame, 0, HILLS);
            things = other.things;
            for (int i = 0; i < THINGS; i++) {
                stones[i] = other.stones[i];
            }
            System.arraycopy(other.done, 0, done, 0, THINGS);
            System.arraycopy(other.cost, 0, cost, 0, THINGS);
            System.arraycopy(other.dial, 0, dial, 0, dial.length);
            System.arraycopy(other.mists, 0, mists, 0, HOURS);
            letters = other.letters;
            System.arraycopy(other.word, 0, word, 0, LETTERS);
            System.arraycopy(other.nightHill, 0, nightHill, 0, HOURS);
            System.arraycopy(other.nightHow, 0, nightHow, 0, HOURS);
        }

        /** What a text tells anew; costs, reports and blames go with their hills and things. */
        void forget() {
            hills = 0;
            things = 0;
            dial[YEAR] = 0;
            dial[MIST] = 0;
            dial[WIDE] = 0;
        }

        boolean hasHill(int hill) {
            return hill >= 0 && hill < hills;
        }

        boolean hasThing(int thing) {
            return thing >= 0 && thing < things;
        }

        boolean hasSet(int set) {
            return set >= 0 && set < 1 << hills;
        }

        int addHill(int atX, int atY, int high) {
            if (!isPlace(atX, atY) || !isWithin(high, 0, TALLEST) || isTaken(atX, atY)) {
                return BAD;
            }
            if (hills >= HILLS) {
                return FULL;
            }
            x[hills] = atX;
            y[hills] = atY;
            height[hills] = high;
            report[hills] = NONE;
            blame[hills] = 1;
            hills++;
            return hills - 1;
        }

        private static boolean isPlace(int atX, int atY) {
            return isWithin(atX, 0, PLACES - 1) && isWithin(atY, 0, PLACES - 1);
        }

        private boolean isTaken(int atX, int atY) {
            for (int hill = 0; hill < hills; hill++) {
                if (x[hill] == atX && y[hill] == atY) {
                    return true;
                }
            }
            return false;
        }

        int addThing(int kind, int atX, int atY, int h, int g) {
            boolean grows = kind != STONE && kind != WALL;
            if (!isWithin(kind, STONE, WALL) || !isPlace(atX, atY)
                    || !isWithin(h, 0, TALLEST) || !isWithin(g, 0, grows ? GROWN : 0)) {
                return BAD;
            }
            if (things >= THINGS) {
                return FULL;
            }
            // Here and not by a method of its own, as calls go only so deep: a TOPPED is made by four constructors.
            switch (kind) {
                case WOOD: stones[things] = new Wood(kind, atX, atY, h, g); break;
                case PINE: stones[things] = new Pine(kind, atX, atY, h, g); break;
                case HEDGE: stones[things] = new Hedge(kind, atX, atY, h, g); break;
                case TOPPED: stones[things] = new Topped(kind, atX, atY, h, g); break;
                case WALL: stones[things] = new Wall(kind, atX, atY, h, g); break;
                default: stones[things] = new Stone(kind, atX, atY, h, g); break;
            }
            done[things] = 0;
            cost[things] = 1;
            things++;
            return things - 1;
        }

        int setDial(int what, int v) {
            if (!isWithin(what, YEAR, TRUTH) || !isWithin(v, LEAST[what], GREATEST[what])) {
                return BAD;
            }
            int was = dial[what];
            dial[what] = v;
            return was;
        }

        /** An ITEM of a text, as its call. */
        int tellItem(int item, int[] numbers) {
            if (item == Text.HILL_ITEM) {
                return addHill(numbers[0], numbers[1], numbers[2]);
            }
            if (item < Text.FIRST_DIAL) {
                return addThing(item - Text.FIRST_THING, numbers[0], numbers[1], numbers[2], numbers[3]);
            }
            return setDial(item - Text.FIRST_DIAL, numbers[0]);
        }

        int standing(int thing, int year) {
            return stones[thing].stands(year, done[thing] == 1);
        }

        int reports() {
            int all = 0;
            for (int hill = 0; hill < hills; hill++) {
                all += report[hill] == NONE ? 0 : 1;
            }
            return all;
        }

        /** Bits of THINGS that may still be FELLED or RAISED. */
        int workable() {
            int bits = 0;
            for (int thing = 0; thing < things; thing++) {
                bits |= stones[thing].isWorkable() && done[thing] == 0 ? 1 << thing : 0;
            }
            return bits;
        }

        int price(int works, boolean byCost) {
            int sum = 0;
            for (int thing = 0; thing < things; thing++) {
                if (isIn(thing, works)) {
                    sum += byCost ? cost[thing] : 1;
                }
            }
            return sum;
        }

        /** The bit of the HILL that is told to change in an hour; 0: nothing, or it is not there. */
        int nightChange(int hour) {
            int hill = nightHill[hour];
            return hasHill(hill) ? 1 << hill : 0;
        }

        long digestOfHills(long start) {
            long h = start;
            for (int hill = 0; hill < hills; hill++) {
                h = mixed(h, x[hill]);
                h = mixed(h, y[hill]);
                h = mixed(h, height[hill]);
                h = mixed(h, report[hill]);
                h = mixed(h, blame[hill]);
            }
            return h;
        }

        long digestOfThings(long start) {
            long h = start;
            for (int thing = 0; thing < things; thing++) {
                Stone stone = stones[thing];
                h = mixed(h, stone.kind);
                h = mixed(h, stone.x);
                h = mixed(h, stone.y);
                h = mixed(h, stone.h);
                h = mixed(h, stone.g);
                h = mixed(h, done[thing]);
                h = mixed(h, cost[thing]);
            }
            return h;
        }

        long digestOfTimes(long start) {
            long h = start;
            for (int what = YEAR; what <= TRUTH; what++) {
                h = mixed(h, dial[what]);
            }
            for (int hour = 0; hour < HOURS; hour++) {
                h = mixed(h, mists[hour]);
            }
            for (int i = 0; i < letters; i++) {
                h = mixed(h, word[i]);
            }
            for (int hour = 0; hour < HOURS; hour++) {
                h = mixed(h, nightHill[hour]);
                h = mixed(h, nightHow[hour]);
            }
            return h;
        }
    }

    // ---- SIGHT

    /** The line from a HILL to another; all is kept times its square, so that no fraction is cut. */
    private static final class Line {
        private int startX;
        private int startY;
        private int dx;
        private int dy;
        private int side;
        private int low;
        private int end;
        int square;

        void draw(Land land, int a, int b) {
            startX = land.x[a];
            startY = land.y[a];
            dx = land.x[b] - startX;
            dy = land.y[b] - startY;
            side = land.dial[WIDE] * Math.max(Math.abs(dx), Math.abs(dy));
            low = land.height[a];
            end = land.height[b];
            square = dx * dx + dy * dy;
        }

        private int along(int x, int y) {
            return (x - startX) * dx + (y - startY) * dy;
        }

        boolean isBetween(int x, int y) {
            int along = along(x, y);
            return along > 0 && along < square;
        }

        boolean meets(int x, int y) {
            int across = Math.abs((x - startX) * dy - (y - startY) * dx);
            return isBetween(x, y) && across <= side;
        }

        /** How much higher the line is there, times the square. */
        int over(int x, int y, int high) {
            return (low - high) * square + (end - low) * along(x, y);
        }

        boolean isHidden(int x, int y, int high) {
            return over(x, y, high) < 0;
        }

        /** The least height of the start, from one on, by which this does not hide the end; above TALLEST: none. */
        int lifted(int x, int y, int high, int height) {
            low = height;
            if (meets(x, y)) {
                while (low <= TALLEST && isHidden(x, y, high)) {
                    low++;
                }
            }
            return low;
        }
    }

    /** What each HILL sees. */
    private static final class Eyes {
        /** Stands for every HILL between; no work takes it away. */
        private static final int BY_HILL = 1 << THINGS;

        final Line line = new Line();
        final int[] view = new int[HILLS];
        private final int[] hidesNow = new int[HILLS * HILLS];
        private final int[] hidesDone = new int[HILLS * HILLS];

        /** For each pair what hides it as it is, and what would if it were FELLED or RAISED. */
        void gather(Land land, int year) {
            for (int a = 0; a < land.hills; a++) {
                for (int b = a + 1; b < land.hills; b++) {
                    line.draw(land, a, b);
                    int pair = a * HILLS + b;
                    hidesNow[pair] = isHiddenByHill(land, a, b) ? BY_HILL : 0;
                    hidesDone[pair] = 0;
                    gatherThings(land, year, pair);
                }
            }
        }

        private boolean isHiddenByHill(Land land, int a, int b) {
            for (int c = 0; c < land.hills; c++) {
                if (c != a && c != b && line.meets(land.x[c], land.y[c])
                        && line.isHidden(land.x[c], land.y[c], land.height[c])) {
                    return true;
                }
            }
            return false;
        }

        private void gatherThings(Land land, int year, int pair) {
            for (int thing = 0; thing < land.things; thing++) {
                Stone stone = land.stones[thing];
                if (!line.meets(stone.x, stone.y)) {
                    continue;
                }
                if (line.isHidden(stone.x, stone.y, stone.stands(year, land.done[thing] == 1))) {
                    hidesNow[pair] |= 1 << thing;
                }
                if (line.isHidden(stone.x, stone.y, stone.stands(year, true))) {
                    hidesDone[pair] |= 1 << thing;
                }
            }
        }

        /** Sets the views by a mist, with works done besides; gather comes ahead. */
        void veil(Land land, int mist, int works) {
            Arrays.fill(view, 0);
            for (int a = 0; a < land.hills; a++) {
                for (int b = a + 1; b < land.hills; b++) {
                    int pair = a * HILLS + b;
                    int hides = hidesNow[pair] & ~works | hidesDone[pair] & works;
                    if (hides == 0 && land.height[a] >= mist && land.height[b] >= mist) {
                        view[a] |= 1 << b;
                        view[b] |= 1 << a;
                    }
                }
            }
        }

        int firstWrong(int set) {
            for (int hill = 0; hill < HILLS; hill++) {
                if (isIn(hill, set) && Integer.bitCount(view[hill] & set) != 1) {
                    return hill;
                }
            }
            return NONE;
        }

        int townView(int town) {
            return view[town] | 1 << town;
        }

        int leastTower(Land land, int hill) {
            int mist = land.dial[MIST];
            int height = land.hills > 1 ? mist : 0;
            for (int b = 0; b < land.hills; b++) {
                if (b == hill) {
                    continue;
                }
                if (land.height[b] < mist) {
                    return NONE;
                }
                height = towerTo(land, hill, b, height);
            }
            return height > TALLEST ? NONE : height;
        }

        /** A higher tower never sees less, so the height only has to rise over each thing in turn. */
        private int towerTo(Land land, int hill, int b, int least) {
            int height = least;
            line.draw(land, hill, b);
            for (int c = 0; c < land.hills; c++) {
                if (c != hill && c != b) {
                    height = line.lifted(land.x[c], land.y[c], land.height[c], height);
                }
            }
            for (int thing = 0; thing < land.things; thing++) {
                Stone stone = land.stones[thing];
                height = line.lifted(stone.x, stone.y, land.standing(thing, land.dial[YEAR]), height);
            }
            return height;
        }
    }

    // ---- ROWS

    /** LAWFUL SETS, and rows of them. */
    private static final class Rows {
        final int[] sets = new int[SETS];
        int found;
        /** By SET: hours from where spread began; NONE: no row leads there. */
        final int[] hours = new int[SETS];
        private final int[] marks = new int[SETS];
        /** By place in sets: the most LETTERS that may be read by now; NONE: it can't be that SET yet. */
        private int[] read = new int[SETS];
        private int[] readNext = new int[SETS];

        void gather(Eyes eyes, int hills) {
            found = 0;
            int all = 1 << hills;
            for (int set = 0; set < all && set < SETS; set++) {
                if (eyes.firstWrong(set) == NONE) {
                    sets[found] = set;
                    found++;
                }
            }
        }

        int fullest(int with) {
            int best = NONE;
            for (int i = 0; i < found; i++) {
                int set = sets[i];
                if ((set & with) == with
                        && (best == NONE || Integer.bitCount(set) > Integer.bitCount(best))) {
                    best = set;
                }
            }
            return best;
        }

        int ofFires(int n) {
            int all = 0;
            for (int i = 0; i < found; i++) {
                all += Integer.bitCount(sets[i]) == n ? 1 : 0;
            }
            return all;
        }

        private static boolean isNear(int set, int other) {
            return Integer.bitCount(set ^ other) <= 2;
        }

        void spread(int start) {
            Arrays.fill(hours, NONE);
            hours[start] = 0;
            boolean goesOn = true;
            for (int hour = 0; goesOn && hour < SETS; hour++) {
                goesOn = spreadBehind(hour);
            }
        }

        private boolean spreadBehind(int hour) {
            boolean goesOn = false;
            for (int i = 0; i < found; i++) {
                if (hours[sets[i]] != hour) {
                    continue;
                }
                for (int k = 0; k < found; k++) {
                    int next = sets[k];
                    if (hours[next] == NONE && isNear(sets[i], next)) {
                        hours[next] = hour + 1;
                        goesOn = true;
                    }
                }
            }
            return goesOn;
        }

        /** The SET behind so many hours of the first row back to where spread began. */
        int nearer(int from, int steps) {
            int set = from;
            for (int step = 0; step < steps && hours[set] > 0; step++) {
                set = nextNearer(set);
            }
            return set;
        }

        private int nextNearer(int set) {
            for (int i = 0; i < found; i++) {
                if (hours[sets[i]] == hours[set] - 1 && isNear(set, sets[i])) {
                    return sets[i];
                }
            }
            return set;
        }

        int within(int n) {
            int all = 0;
            for (int i = 0; i < found; i++) {
                all += isWithin(hours[sets[i]], 0, n) ? 1 : 0;
            }
            return all;
        }

        /** As nothing need change in an hour, just n hours lead where n at most do. */
        int viewsWithin(int n, int seen) {
            Arrays.fill(marks, 0);
            int all = 0;
            for (int i = 0; i < found; i++) {
                int one = sets[i] & seen;
                if (isWithin(hours[sets[i]], 0, n) && marks[one] == 0) {
                    marks[one] = 1;
                    all++;
                }
            }
            return all;
        }

        /** Marks by SET the hours in which it may be; the first hour in which it is the other SET, or NONE. */
        int followMists(Land land, Eyes eyes, int from, int to) {
            Arrays.fill(marks, 0);
            marks[from] = 1;
            for (int hour = 1; hour < HOURS && marks[to] == 0; hour++) {
                eyes.veil(land, land.mists[hour], 0);
                gather(eyes, land.hills);
                for (int i = 0; i < found; i++) {
                    if (isNearMarked(sets[i], hour - 1, land.hills)) {
                        marks[sets[i]] |= 1 << hour;
                    }
                }
            }
            // It is marked once at most: the loop ends with the hour that marks it.
            for (int hour = 0; hour < HOURS; hour++) {
                if (marks[to] == 1 << hour) {
                    return hour;
                }
            }
            return NONE;
        }

        private boolean isNearMarked(int set, int hour, int hills) {
            if (isIn(hour, marks[set])) {
                return true;
            }
            for (int a = 0; a < hills; a++) {
                for (int b = a; b < hills; b++) {
                    if (isIn(hour, marks[set ^ (1 << a | 1 << b)])) {
                        return true;
                    }
                }
            }
            return false;
        }

        /** The SET in an hour of the first row by mists; followMists comes ahead. */
        int inHour(Land land, int from, int to, int last, int hour) {
            dropDeadEnds(land, to, last);
            int set = from;
            for (int next = 1; next <= hour; next++) {
                set = leastMarked(set, next, 1 << land.hills);
            }
            return set;
        }

        private void dropDeadEnds(Land land, int to, int last) {
            int all = 1 << land.hills;
            for (int set = 0; set < all; set++) {
                marks[set] &= set == to ? ~0 : ~(1 << last);
            }
            for (int hour = last - 1; hour > 0; hour--) {
                for (int set = 0; set < all; set++) {
                    if (isIn(hour, marks[set]) && !isNearMarked(set, hour + 1, land.hills)) {
                        marks[set] &= ~(1 << hour);
                    }
                }
            }
        }

        private int leastMarked(int near, int hour, int all) {
            for (int set = 0; set < all; set++) {
                if (isIn(hour, marks[set]) && isNear(near, set)) {
                    return set;
                }
            }
            return near;
        }

        /** Who has read more by the same SET is never later, so the most read is all that counts. */
        int hoursToRead(Land land, int from, int seen) {
            boolean isRead = land.letters == 0;
            for (int i = 0; i < found; i++) {
                read[i] = sets[i] == from ? readBy(land, 0, sets[i] & seen) : NONE;
                isRead |= read[i] == land.letters;
            }
            boolean goesOn = true;
            int hour = 0;
            while (!isRead && goesOn && hour < SETS * (LETTERS + 1)) {
                hour++;
                goesOn = readOneHour(land, seen);
                isRead = isAllRead(land.letters);
            }
            return isRead ? hour : NONE;
        }

        private static int readBy(Land land, int letters, int fires) {
            boolean reads = letters < land.letters && land.word[letters] == Integer.bitCount(fires);
            return reads ? letters + 1 : letters;
        }

        private boolean isAllRead(int letters) {
            for (int i = 0; i < found; i++) {
                if (read[i] == letters) {
                    return true;
                }
            }
            return false;
        }

        /** False if nothing is new: then nothing will ever be. */
        private boolean readOneHour(Land land, int seen) {
            boolean isNew = false;
            for (int i = 0; i < found; i++) {
                int best = mostReadNear(sets[i]);
                readNext[i] = best == NONE ? NONE : readBy(land, best, sets[i] & seen);
                isNew |= readNext[i] != read[i];
            }
            int[] old = read;
            read = readNext;
            readNext = old;
            return isNew;
        }

        private int mostReadNear(int set) {
            int best = NONE;
            for (int i = 0; i < found; i++) {
                if (read[i] > best && isNear(set, sets[i])) {
                    best = read[i];
                }
            }
            return best;
        }
    }

    // ---- THE TEXT

    private static final class Text {
        private static final int END = 0, WORD = 1, NUMBER = 2, STOP = 3, WRONG = 4;
        private static final int BLANK = 32;
        /** ITEMS: hill, then THINGS by KIND, then the dials YEAR, MIST, WIDE. */
        static final int HILL_ITEM = 0, FIRST_THING = 1, FIRST_DIAL = 7;
        private static final int ITEMS = 10, MOST_NUMBERS = 4;
        private static final int[] NUMBERS = {3, 3, 4, 4, 4, 4, 3, 1, 1, 1};

        private final int[] bytes = new int[BYTES];
        /** Of the ITEM that was read last; 0 where it has none. */
        final int[] numbers = new int[MOST_NUMBERS];
        int length;
        private int tokenAt;
        private int tokenEnd;

        int add(long v, int n) {
            if (!isWithin(n, 1, 8)) {
                return BAD;
            }
            if (length + n > BYTES) {
                return FULL;
            }
            for (int i = n - 1; i >= 0; i--) {
                bytes[length] = (int) (v >>> (8 * i)) & 255;
                length++;
            }
            return length;
        }

        void rewind() {
            tokenEnd = 0;
        }

        /** The next ITEM; NONE: there is no more; -10 less the FAULT. */
        int nextItem() {
            int token = nextToken();
            if (token == END) {
                return NONE;
            }
            int item = token == WORD ? itemHere() : NONE;
            if (item == NONE) {
                return FAULT - tokenAt;
            }
            Arrays.fill(numbers, 0);
            for (int i = 0; i < NUMBERS[item]; i++) {
                if (nextToken() != NUMBER) {
                    return FAULT - tokenAt;
                }
                numbers[i] = numberHere();
            }
            return nextToken() == STOP ? item : FAULT - tokenAt;
        }

        /** At the END tokenAt is the TEXT's length: the FAULT of one that ends too early. */
        private int nextToken() {
            tokenAt = tokenEnd;
            while (tokenAt < length && bytes[tokenAt] == BLANK) {
                tokenAt++;
            }
            if (tokenAt >= length) {
                return END;
            }
            tokenEnd = tokenAt + 1;
            int first = bytes[tokenAt];
            if (first == ';') {
                return STOP;
            }
            if (isWithin(first, 'a', 'z')) {
                passAll('a', 'z');
                return WORD;
            }
            if (isWithin(first, '0', '9')) {
                passAll('0', '9');
                return tokenEnd - tokenAt <= 2 ? NUMBER : WRONG;
            }
            return WRONG;
        }

        private void passAll(int least, int greatest) {
            while (tokenEnd < length && isWithin(bytes[tokenEnd], least, greatest)) {
                tokenEnd++;
            }
        }

        private int numberHere() {
            int n = 0;
            for (int i = tokenAt; i < tokenEnd; i++) {
                n = 10 * n + bytes[i] - '0';
            }
            return n;
        }

        private int itemHere() {
            for (int item = 0; item < ITEMS; item++) {
                if (isWordHere(wordOf(item))) {
                    return item;
                }
            }
            return NONE;
        }

        private boolean isWordHere(String word) {
            if (word.length() != tokenEnd - tokenAt) {
                return false;
            }
            for (int i = 0; i < word.length(); i++) {
                if (bytes[tokenAt + i] != word.charAt(i)) {
                    return false;
                }
            }
            return true;
        }

        private static String wordOf(int item) {
            switch (item) {
                case 0: return "hill";
                case 1: return "stone";
                case 2: return "wood";
                case 3: return "pine";
                case 4: return "hedge";
                case 5: return "topped";
                case 6: return "wall";
                case 7: return "year";
                case 8: return "mist";
                default: return "wide";
            }
        }
    }
}
