/** What there is: images, what was refused, the fraction; and promises 37 to 42. */
final class RestSentences {
    private static final int TERMS = Sentences.TERMS;
    private static final int NONE = TwinFires.NONE, BAD = TwinFires.BAD, NO = TwinFires.NO, FULL = TwinFires.FULL;
    private static final int STONE = Lands.STONE, WOOD = Lands.WOOD, WALL = Lands.WALL;
    private static final int YEAR = Lands.YEAR, MIST = Lands.MIST, WIDE = Lands.WIDE, TRUTH = Lands.TRUTH;
    private final Sentences t;

    RestSentences(Sentences t) {
        this.t = t;
    }

    void all() {
        termsOfImages();
        termsOfGoingOn();
        usedAndNew();
        termsOfStatus();
        termsOfFraction();
        termsOfRefusing();
        termsOfOrder();
        part();
        image();
        from();
        status();
        count();
        digestOfAll();
        digestWrapsAround();
        digestParts();
        the512thCall();
    }

    /** An object that has something of all that an image keeps. */
    private static TwinFires lived() {
        TwinFires x = Lands.chain(9);
        for (int i = 0; i < 7; i++) {
            x.thing(WOOD, i, 3, i, i);
            x.cost(i, 10 + i);
        }
        x.work(6, true);
        x.put(YEAR, 1);
        x.put(MIST, 2);
        x.put(WIDE, 3);
        x.put(TRUTH, 4);
        for (int i = 0; i < 9; i++) {
            x.report(i, i);
            x.blame(i, i);
        }
        for (int hour = 0; hour < 12; hour++) {
            x.mist(hour, hour);
            x.tell(hour, hour % 9, hour % 2);
        }
        for (int i = 0; i < 7; i++) {
            x.letter(i);
        }
        return x;
    }

    /** Changes all that an image keeps. */
    private static void liveOn(TwinFires x) {
        x.hill(19, 19, 99);
        x.thing(WALL, 9, 9, 9, 0);
        x.work(6, false);
        x.work(0, true);
        x.cost(0, 99);
        x.put(YEAR, 9);
        x.put(MIST, 9);
        x.put(WIDE, 0);
        x.put(TRUTH, 10);
        x.report(0, NONE);
        x.blame(8, 0);
        x.mist(0, 99);
        x.mist(11, 99);
        x.tell(0, NONE, 0);
        x.tell(11, 0, 1);
        x.letter(9);
    }

    private void termsOfImages() {
        t.says(TERMS, "IMAGES 0, 1 keep all");
        TwinFires x = lived();
        long was = x.digest();
        t.takes("kept 0", x, y -> y.image(0), 1);
        liveOn(x);
        long then = x.digest();
        t.takes("kept 1", x, y -> y.image(1), 1);
        t.takes("back", x, y -> y.from(0), 1);
        t.due("all of it", x.digest(), was);
        t.due("felled as it was", x.high(6), 0);
        t.due("not felled as it was", x.high(1), 2);
        t.takes("on again", x, y -> y.from(1), 1);
        t.due("all of it", x.digest(), then);
        t.due("felled as it was", x.high(0), 0);
        for (int v : Sentences.outside(0, 1)) {
            t.bad("image " + v, x, y -> y.image(v));
            t.bad("from " + v, x, y -> y.from(v));
        }
        t.says(TERMS, "but them, THE TEXT, THE FRACTION and STATUS;");
        TwinFires other = Lands.two();
        other.thing(STONE, 1, 0, 3, 0);
        other.type(0x2020, 2);
        other.clear(0, 1, 0);
        other.image(0);
        other.image(1);
        other.hill(9, 9, 9);
        other.image(1);
        other.clearText();
        Lands.write(other, "year 1;");
        other.work(9, true);
        other.from(0);
        t.due("the image 1 is not kept in 0", other.from(1), 1);
        t.due("the image 1 is not kept in 0", other.count(0), 3);
        other.from(0);
        t.due("the text is not kept", other.count(2), 7);
        t.due("status is not kept", other.status(0), 1);
        other.thing(STONE, 1, 0, 4, 0);
        other.clear(0, 1, 1);
        other.from(0);
        t.due("the fraction is not kept", other.part(0), 6);
        t.due("the text can be read", other.land(), 1);
    }

    private void termsOfGoingOn() {
        t.says(TERMS, "it goes on from one.");
        TwinFires x = lived();
        x.image(0);
        long was = x.digest();
        for (int i = 0; i < 3; i++) {
            liveOn(x);
            t.takes("back, time " + i, x, y -> y.from(0), 1);
            t.due("what was done behind it does not change it, time " + i, x.digest(), was);
        }
        Lands.write(x, "hill 1 1 1;");
        x.land();
        t.due("a land was read", x.count(0), 1);
        x.from(0);
        x.clearText();
        t.due("and it is back", x.digest(), was);
        x.hill(19, 19, 99);
        x.image(0);
        liveOn(x);
        x.from(0);
        t.due("an image is kept over the one ahead of it", x.count(0), 10);
        TwinFires empty = new TwinFires();
        empty.image(1);
        long none = empty.digest();
        empty.hill(1, 1, 1);
        empty.from(1);
        t.due("of nothing", empty.digest(), none);
    }

    private static TwinFires pairs(int mist, int... letters) {
        TwinFires x = Lands.chain(5);
        x.put(MIST, mist);
        for (int hour = 0; hour < 12; hour++) {
            x.mist(hour, mist);
        }
        for (int letter : letters) {
            x.letter(letter);
        }
        return x;
    }

    /** What was asked before leaves nothing behind: an object that goes on answers as a new one does. */
    private void usedAndNew() {
        t.says(TERMS, "IMAGES 0, 1 keep all but them, THE TEXT, THE FRACTION and STATUS; it goes on from one.");
        Sentences.Call[] calls = {y -> y.most(NONE, 1), y -> y.most(4, 0), y -> y.lawful(NONE), y -> y.lawful(2),
            y -> y.reach(0, 1), y -> y.reach(0, 99), y -> y.words(0, 0, 6), y -> y.words(0, 3, 1), y -> y.toldIn(0, 0),
            y -> y.toldIn(0, 3), y -> y.row(0, 24, NONE), y -> y.row(24, 3, 1), y -> y.byMists(0, 24, NONE),
            y -> y.byMists(24, 3, 1), y -> y.without(0), y -> y.years(24), y -> y.hours(24), y -> y.night(24, 1),
            y -> y.fewest(24, 0), y -> y.cheapest(6, 1), y -> y.tower(4), y -> y.judge(27, 0)};
        int[] mists = {0, 99, 0, 25, 11, 29, 19, 0};
        TwinFires image = Lands.chain(5);
        for (int i = 0; i < 2; i++) {
            image.letter(2);
        }
        image.image(0);
        for (int mist : mists) {
            TwinFires used = pairs(0, 2, 2);
            for (int k = 0; k < calls.length; k++) {
                calls[k].on(used);
            }
            used.put(MIST, mist);
            for (int hour = 0; hour < 12; hour++) {
                used.mist(hour, mist);
            }
            for (int k = 0; k < calls.length; k++) {
                t.due("call " + k + " in mist " + mist, calls[k].on(used), calls[k].on(pairs(mist, 2, 2)));
            }
        }
        image.hill(15, 0, 99);
        image.hill(7, 0, 99);
        image.thing(STONE, 1, 0, 99, 0);
        for (int k = 0; k < calls.length; k++) {
            calls[k].on(image);
        }
        image.from(0);
        for (int k = 0; k < calls.length; k++) {
            t.due("call " + k + " from an image", calls[k].on(image), calls[k].on(pairs(0, 2, 2)));
        }
    }

    private void termsOfStatus() {
        t.says(TERMS, "STATUS: how many calls were refused as BAD, NO, FULL (each answer told so below is such a one;");
        TwinFires x = Lands.two();
        for (int i = 0; i < 50; i++) {
            x.high(0);
        }
        for (int i = 0; i < 40; i++) {
            x.from(0);
        }
        for (int i = 0; i < 38; i++) {
            x.letter(1);
        }
        t.due("BAD", x.status(0), 50);
        t.due("NO", x.status(1), 40);
        t.due("FULL", x.status(2), 30);
        t.due("asking does not count", x.status(0), 50);
        t.says(TERMS, "ITEMS are none).");
        Lands.write(x, "wide 4;");
        t.takes("an item that is refused as BAD", x, y -> y.land(), -1000);
        Lands.write(x, "wall0 0 0;".repeat(9));
        t.takes("an item that is refused as FULL", x, y -> y.land(), -1008);
        Lands.write(x, "?");
        t.takes("a fault", x, y -> y.land(), -10);
    }

    private void termsOfFraction() {
        t.says(TERMS, "THE FRACTION is 0 by 1 at first;");
        TwinFires x = new TwinFires();
        t.asks("above", x, y -> y.part(0), 0);
        t.asks("below", x, y -> y.part(1), 1);
        t.says(TERMS, "lowest terms,");
        TwinFires y0 = new TwinFires();
        y0.hill(0, 0, 10);
        y0.hill(6, 6, 40);
        // D 72: at 1, 1 ALONG is 12 and it is 15; at 1, 0 it is 6, and 12 and a half; at 5, 4 it is 54, and 32 and a half.
        int[][] places = {{1, 1, 3, 12, 1}, {1, 0, 3, 19, 2}, {5, 4, 99, -133, 2}, {2, 1, 10, 15, 2}, {1, 1, 15, 0, 1}};
        for (int i = 0; i < places.length; i++) {
            int[] p = places[i];
            y0.thing(STONE, p[0], p[1], p[2], 0);
            t.due("clear", y0.clear(0, 1, i), 1);
            t.due("above " + i, y0.part(0), p[3]);
            t.due("below " + i, y0.part(1), p[4]);
        }
        TwinFires blames = Lands.chain(5);
        blames.blame(2, 6);
        blames.blame(3, 9);
        blames.blame(4, 9);
        blames.chance(3, 2);
        t.due("6 of 24", blames.part(0), 1);
        t.due("6 of 24", blames.part(1), 4);
        blames.chance(3, 3);
        t.due("9 of 24", blames.part(0), 3);
        t.due("9 of 24", blames.part(1), 8);
        blames.chance(3, 0);
        t.due("0 of 24", blames.part(0), 0);
        t.due("0 of 24", blames.part(1), 1);
        t.says(TERMS, "below above 0.");
        TwinFires back = new TwinFires();
        back.hill(3, 0, 10);
        back.hill(0, 0, 20);
        back.thing(STONE, 1, 0, 99, 0);
        t.due("lower, from the right", back.clear(0, 1, 0), 1);
        t.due("above", back.part(0), -247);
        t.due("below", back.part(1), 3);
        t.due("lower, from the left", back.clear(1, 0, 0), 1);
        t.due("above", back.part(0), -247);
        t.due("below", back.part(1), 3);
    }

    private void termsOfRefusing() {
        t.says(TERMS, "Refused, changing nothing but STATUS,");
        TwinFires x = lived();
        Lands.write(x, "year 1;");
        x.image(0);
        long digest = x.digest();
        x.hill(0, 0, 0);
        x.hill(20, 0, 0);
        x.thing(6, 0, 0, 0, 0);
        x.put(WIDE, 4);
        x.work(7, true);
        x.work(6, true);
        x.cost(0, 100);
        x.clear(0, 1, 0);
        x.type(0x3F3F, 9);
        x.mist(0, 100);
        x.letter(10);
        x.report(0, 10);
        x.blame(0, 10);
        x.chance(1, 8);
        x.lies(1, 8);
        x.tell(0, 9, 1);
        x.image(2);
        x.from(1);
        t.due("digest", x.digest(), digest);
        t.due("each was refused", x.status(0) + x.status(1) + x.status(2), 18);
        t.due("the text", x.land(), 1);
        x.from(0);
        t.due("the image", x.digest(), digest);
        TwinFires full = Lands.chain(10);
        for (int i = 0; i < 8; i++) {
            full.thing(WALL, 1, 1, 1, 0);
            full.letter(1);
        }
        for (int i = 0; i < 30; i++) {
            full.type(0x2020202020202020L, 8);
        }
        t.full("hills", full, y -> y.hill(19, 19, 1));
        t.full("things", full, y -> y.thing(WALL, 1, 1, 1, 0));
        t.full("letters", full, y -> y.letter(1));
        t.full("bytes", full, y -> y.type(0x3F, 1));
        t.due("the text", full.land(), 0);
    }

    private void termsOfOrder() {
        t.says(TERMS, "the first of: BAD -2 a number is not as told;");
        TwinFires x = Lands.chain(5);
        x.thing(STONE, 0, 0, 1, 0);
        t.bad("clear: no thing, and not between", x, y -> y.clear(0, 1, 1));
        t.bad("work: a stone, and it is so", x, y -> y.work(0, false));
        t.bad("reach: n, and not LAWFUL", x, y -> y.reach(1, 100));
        t.bad("words: n, and not LAWFUL", x, y -> y.words(1, 0, 7));
        t.bad("chance: no hill, and not LAWFUL", x, y -> y.chance(1, 5));
        t.bad("lies: one of the SET, and not LAWFUL", x, y -> y.lies(1, 0));
        t.bad("night: what", x, y -> y.night(1, 3));
        t.bad("most: what", x, y -> y.most(0, 2));
        t.due("BAD", BAD, -2);
        t.says(TERMS, "NO -3 as told;");
        t.no("clear", x, y -> y.clear(0, 1, 0));
        t.no("reach", x, y -> y.reach(1, 1));
        t.no("words", x, y -> y.words(1, 0, 1));
        t.no("without", x, y -> y.without(1));
        t.no("chance", x, y -> y.chance(1, 4));
        t.no("lies", x, y -> y.lies(1, 4));
        t.no("from", x, y -> y.from(0));
        t.due("NO", NO, -3);
        t.says(TERMS, "FULL -4");
        for (int i = 0; i < 8; i++) {
            x.letter(9);
        }
        t.bad("letter: not as told, and full", x, y -> y.letter(10));
        t.full("letter", x, y -> y.letter(9));
        t.due("FULL", FULL, -4);
        t.says(TERMS, "(where others are told they count as these).");
        t.refuses("row BAD", x, y -> y.row(0, 32, 0), -10, BAD);
        t.refuses("row NO", x, y -> y.row(0, 1, 0), -20, NO);
        t.refuses("byMists BAD", x, y -> y.byMists(0, 32, 0), -10, BAD);
        t.refuses("byMists NO", x, y -> y.byMists(1, 0, 0), -20, NO);
        t.refuses("toldIn BAD", x, y -> y.toldIn(0, 5), -10, BAD);
        t.refuses("toldIn NO", x, y -> y.toldIn(1, 0), -20, NO);
        t.refuses("report BAD", x, y -> y.report(5, 0), -10, BAD);
        t.refuses("part BAD", x, y -> y.part(2), -1000000, BAD);
        t.refuses("status BAD", x, y -> y.status(3), -1, BAD);
        t.asks("NONE is no refusal", x, y -> y.judge(0, 0), NONE);
        t.asks("-5 is no refusal", x, y -> y.row(0, 0, 1), -5);
        t.asks("-6 is no refusal", x, y -> y.byMists(0, 1, NONE), -6);
    }

    private void part() {
        t.says(37, "THE FRACTION: above (0), below (1).");
        TwinFires x = new TwinFires();
        x.hill(0, 0, 10);
        x.hill(3, 0, 20);
        x.thing(STONE, 1, 0, 99, 0);
        x.clear(0, 1, 0);
        t.asks("above", x, y -> y.part(0), -257);
        t.asks("below", x, y -> y.part(1), 3);
        t.says(37, "BAD: -1000000.");
        for (int v : Sentences.outside(0, 1)) {
            t.refuses("what " + v, x, y -> y.part(v), -1000000, BAD);
        }
    }

    private void image() {
        t.says(38, "An IMAGE is kept: 1.");
        TwinFires x = Lands.two();
        t.takes("image 0", x, y -> y.image(0), 1);
        t.takes("image 0 again", x, y -> y.image(0), 1);
        t.takes("image 1", x, y -> y.image(1), 1);
        t.takes("it is kept", x, y -> y.from(1), 1);
        t.says(38, "BAD.");
        for (int v : Sentences.outside(0, 1)) {
            t.bad("image " + v, x, y -> y.image(v));
        }
    }

    private void from() {
        t.says(39, "It goes on from an IMAGE: 1.");
        TwinFires x = Lands.two();
        x.image(1);
        x.hill(1, 1, 1);
        t.takes("image 1", x, y -> y.from(1), 1);
        t.due("two hills", x.count(0), 2);
        t.takes("the third one again", x, y -> y.hill(1, 1, 1), 2);
        t.says(39, "BAD;");
        for (int v : Sentences.outside(0, 1)) {
            t.bad("image " + v, x, y -> y.from(v));
        }
        t.says(39, "NO: none was kept.");
        t.no("image 0", x, y -> y.from(0));
        TwinFires none = new TwinFires();
        t.no("image 0", none, y -> y.from(0));
        t.no("image 1", none, y -> y.from(1));
        none.image(0);
        t.takes("image 0", none, y -> y.from(0), 1);
        t.no("image 1", none, y -> y.from(1));
    }

    private void status() {
        t.says(40, "STATUS: BAD (0), NO (1), FULL (2).");
        TwinFires x = new TwinFires();
        t.asks("BAD at first", x, y -> y.status(0), 0);
        t.asks("NO at first", x, y -> y.status(1), 0);
        t.asks("FULL at first", x, y -> y.status(2), 0);
        x.from(0);
        t.asks("NO", x, y -> y.status(1), 1);
        x.from(2);
        t.asks("BAD", x, y -> y.status(0), 1);
        for (int i = 0; i < 10; i++) {
            x.letter(0);
        }
        t.asks("FULL", x, y -> y.status(2), 2);
        t.says(40, "-1: another what (counts as BAD).");
        for (int v : Sentences.outside(0, 2)) {
            t.refuses("what " + v, x, y -> y.status(v), -1, BAD);
        }
        t.due("they count", x.status(0), 5);
    }

    private void count() {
        t.says(41, "How many: 0 HILLS, 1 THINGS, 2 bytes of THE TEXT, 3 REPORTS, 4 LETTERS.");
        TwinFires x = Lands.chain(10);
        for (int i = 0; i < 8; i++) {
            x.thing(WALL, 1, 1, 1, 0);
            x.letter(1);
        }
        for (int i = 0; i < 30; i++) {
            x.type(0, 8);
        }
        for (int i = 0; i < 10; i++) {
            x.report(i, 0);
        }
        int[] greatest = {10, 8, 240, 10, 8};
        for (int i = 0; i < 5; i++) {
            int what = i;
            t.asks("greatest " + i, x, y -> y.count(what), greatest[what]);
        }
        TwinFires few = Lands.chain(4);
        few.thing(WALL, 1, 1, 1, 0);
        few.type(0, 7);
        few.report(1, 9);
        few.report(3, 0);
        few.letter(0);
        few.letter(0);
        few.letter(0);
        int[] due = {4, 1, 7, 2, 3};
        for (int i = 0; i < 5; i++) {
            int what = i;
            t.asks("some " + i, few, y -> y.count(what), due[what]);
        }
        t.says(41, "BAD.");
        for (int v : Sentences.outside(0, 4)) {
            t.bad("what " + v, x, y -> y.count(v));
        }
    }

    private void digestOfAll() {
        t.says(42, "h = 619; then h = 31 h + v for each v:");
        t.due("a new object", new TwinFires().digest(), Lands.digestOf(0, 0, 0, 0, 0, 0, 0, 0, 9,
                0, 0, 0, 0, 0, 0, 0, 0, 0, 0, 0, 0,
                -1, 0, -1, 0, -1, 0, -1, 0, -1, 0, -1, 0, -1, 0, -1, 0, -1, 0, -1, 0, -1, 0, -1, 0, 0, 1));
        t.says(42, "count(0) to count(4); of HILLS X, Y, HEIGHT, REPORT (NONE: none), BLAME; of THINGS KIND, X, Y, h, g, "
                + "FELLED or RAISED (1, 0), COST; YEAR, MIST, WIDE, TRUTH; MIST of hours; LETTERS; of THE NIGHT's hours "
                + "the HILL (NONE), how; THE FRACTION.");
        TwinFires x = new TwinFires();
        x.hill(0, 19, 99);
        x.hill(19, 0, 0);
        x.report(0, 9);
        x.blame(0, 0);
        x.blame(1, 9);
        x.thing(WALL, 18, 17, 99, 0);
        x.thing(WOOD, 8, 9, 16, 9);
        x.work(1, true);
        x.cost(0, 99);
        x.put(YEAR, 99);
        x.put(MIST, 98);
        x.put(WIDE, 3);
        x.put(TRUTH, 10);
        x.mist(0, 55);
        x.mist(11, 66);
        x.letter(9);
        x.letter(0);
        x.letter(5);
        x.tell(0, 1, 1);
        x.tell(11, 0, 0);
        x.type(0, 5);
        t.due("clear", x.clear(0, 1, 1), 1);
        // dx 19, dy -19: at 8, -10 ALONG is 342 of 722: 99 less 99 times 9 by 19, as the wood is felled: 990 by 19.
        t.due("digest", x.digest(), Lands.digestOf(2, 2, 5, 1, 3,
                0, 19, 99, 9, 0, 19, 0, 0, -1, 9,
                5, 18, 17, 99, 0, 0, 99, 1, 8, 9, 16, 9, 1, 1,
                99, 98, 3, 10,
                55, 0, 0, 0, 0, 0, 0, 0, 0, 0, 0, 66,
                9, 0, 5,
                1, 1, -1, 0, -1, 0, -1, 0, -1, 0, -1, 0, -1, 0, -1, 0, -1, 0, -1, 0, -1, 0, 0, 0,
                990, 19));
        x.status(9);
        x.image(0);
        t.due("not of STATUS and IMAGES", x.digest(), x.digest());
    }

    /** The long wraps around; none of these may be cut to an int or kept from it. */
    private void digestWrapsAround() {
        t.says(42, "h = 31 h + v for each v");
        TwinFires x = lived();
        long h = 619;
        long[] counts = {9, 7, 0, 9, 7};
        for (long v : counts) {
            h = 31 * h + v;
        }
        for (int i = 0; i < 9; i++) {
            h = ((((h * 31 + 2 * i) * 31) * 31 + 10 + i * (9 - i)) * 31 + i) * 31 + i;
        }
        for (int i = 0; i < 7; i++) {
            h = ((((((h * 31 + 1) * 31 + i) * 31 + 3) * 31 + i) * 31 + i) * 31 + (i == 6 ? 1 : 0)) * 31 + 10 + i;
        }
        for (int v = 1; v <= 4; v++) {
            h = 31 * h + v;
        }
        for (int hour = 0; hour < 12; hour++) {
            h = 31 * h + hour;
        }
        for (int letter = 0; letter < 7; letter++) {
            h = 31 * h + letter;
        }
        for (int hour = 0; hour < 12; hour++) {
            h = (31 * h + hour % 9) * 31 + hour % 2;
        }
        t.due("digest", x.digest(), (31 * h) * 31 + 1);
    }

    /** Each thing that a digest tells changes it. */
    private void digestParts() {
        t.says(42, "for each v");
        Sentences.Call[] changes = {y -> y.hill(19, 19, 1), y -> y.thing(WOOD, 1, 1, 1, 1), y -> y.type(0, 1),
            y -> y.report(0, 5), y -> y.letter(0), y -> y.blame(0, 5), y -> y.work(0, true), y -> y.cost(0, 5),
            y -> y.put(YEAR, 5), y -> y.put(MIST, 5), y -> y.put(WIDE, 1), y -> y.put(TRUTH, 5), y -> y.mist(0, 50),
            y -> y.mist(11, 50), y -> y.tell(0, 5, 1), y -> y.tell(11, 8, 1), y -> y.clear(0, 8, 1)};
        for (int i = 0; i < changes.length; i++) {
            TwinFires x = lived();
            long was = x.digest();
            t.due("not refused " + i, changes[i].on(x) >= 0 ? 1 : 0, 1);
            t.due("changed " + i, x.digest() != was ? 1 : 0, 1);
        }
    }

    /** The 512 calls that an object is used for, all of them on one. */
    private void the512thCall() {
        t.says(1, "As told");
        TwinFires x = new TwinFires();
        int calls = 0;
        for (int i = 0; i < 10; i++) {
            x.hill(2 * i, 0, 10 + i * (9 - i));
            x.thing(1 + i % 4, i, 5, 30, 9);
            calls += 2;
        }
        for (int i = 0; i < 8; i++) {
            x.letter(i % 3);
            calls++;
        }
        Sentences.Call[] dear = {y -> y.toldIn(219, 4), y -> y.byMists(219, 876, 3), y -> y.row(219, 876, 2),
            y -> y.words(219, 4, 6), y -> y.cheapest(1023, 1), y -> y.fewest(1023, 0), y -> y.image(0), y -> y.from(0)};
        while (calls < 511) {
            dear[calls % dear.length].on(x);
            calls++;
        }
        t.due("the 512th call", x.row(219, 876, 3), 108);
    }
}
