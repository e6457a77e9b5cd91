/** Promises 1 to 42, each by answers that were worked out by hand from the document. */
public final class PromisesTest {
    private static final int NONE = TwinFires.NONE, BAD = TwinFires.BAD, NO = TwinFires.NO, FULL = TwinFires.FULL;
    private static final int BIG = Integer.MAX_VALUE, SMALL = Integer.MIN_VALUE;
    private static final int STONE = 0, WOOD = 1, PINE = 2, HEDGE = 3, TOPPED = 4, WALL = 5;
    private static final int YEAR = 0, MIST = 1, WIDE = 2, TRUTH = 3;
    private static int wrong = 0;

    public static void main(String[] args) {
        newObject();
        hill();
        thing();
        put();
        work();
        cost();
        high();
        sight();
        sightByWide();
        clear();
        type();
        clearText();
        landReads();
        landFaults();
        landRefuses();
        sees();
        judge();
        most();
        lawful();
        years();
        mistAndHours();
        fewest();
        cheapest();
        tower();
        row();
        reach();
        words();
        byMists();
        letters();
        toldIn();
        report();
        blameAndWithout();
        chance();
        lies();
        tell();
        night();
        part();
        images();
        status();
        count();
        digest();
        System.out.println(wrong == 0 ? "all promises hold" : wrong + " answers are not as promised");
        if (wrong != 0) {
            System.exit(1);
        }
    }

    private static void due(int promise, String what, long got, long want) {
        if (got != want) {
            wrong++;
            System.out.println("promise " + promise + ": " + what + " answered " + got + ", due is " + want);
        }
    }

    /** Four hills at the corners of a square, all 10 high: each sees each. */
    private static TwinFires square() {
        TwinFires x = new TwinFires();
        x.hill(0, 0, 10);
        x.hill(6, 0, 10);
        x.hill(0, 6, 10);
        x.hill(6, 6, 10);
        return x;
    }

    /** Hills on a line, the higher the nearer to its middle: each sees its neighbours alone. */
    private static TwinFires chain(int hills) {
        TwinFires x = new TwinFires();
        for (int i = 0; i < hills; i++) {
            x.hill(2 * i, 0, 10 + i * (9 - i));
        }
        return x;
    }

    private static void typeAll(TwinFires x, String text) {
        x.clearText();
        for (int i = 0; i < text.length(); i++) {
            x.type(text.charAt(i), 1);
        }
    }

    private static int landOf(String text) {
        TwinFires x = new TwinFires();
        typeAll(x, text);
        return x.land();
    }

    private static void newObject() {
        TwinFires x = new TwinFires();
        for (int i = 0; i < 5; i++) {
            due(1, "count " + i, x.count(i), 0);
        }
        for (int i = 0; i < 3; i++) {
            due(1, "status " + i, x.status(i), 0);
        }
        due(1, "above", x.part(0), 0);
        due(1, "below", x.part(1), 1);
        due(1, "year", x.put(YEAR, 0), 0);
        due(1, "mist", x.put(MIST, 0), 0);
        due(1, "wide", x.put(WIDE, 0), 0);
        due(1, "truth", x.put(TRUTH, 9), 9);
        for (int hour = 0; hour < 12; hour++) {
            due(1, "mist of hour " + hour, x.mist(hour, 0), 0);
        }
        due(1, "images", x.from(0), NO);
        due(1, "images", x.from(1), NO);
        due(1, "the empty set alone", x.lawful(NONE), 1);
        due(1, "NONE", TwinFires.NONE, -1);
        due(1, "BAD", TwinFires.BAD, -2);
        due(1, "NO", TwinFires.NO, -3);
        due(1, "FULL", TwinFires.FULL, -4);
    }

    private static void hill() {
        TwinFires x = new TwinFires();
        due(2, "first", x.hill(0, 19, 0), 0);
        due(2, "second", x.hill(19, 0, 99), 1);
        int[][] bad = {{-1, 0, 0}, {20, 0, 0}, {0, -1, 0}, {0, 20, 0}, {1, 1, -1}, {1, 1, 100}, {BIG, 1, 1},
            {1, SMALL, 1}, {0, 19, 5}};
        for (int[] b : bad) {
            due(2, "bad " + b[0] + " " + b[1] + " " + b[2], x.hill(b[0], b[1], b[2]), BAD);
        }
        for (int i = 2; i < 10; i++) {
            due(2, "number", x.hill(i, i, i), i);
        }
        due(2, "an eleventh", x.hill(0, 0, 0), FULL);
        due(2, "bad ahead of full", x.hill(2, 2, 0), BAD);
        due(2, "bad ahead of full", x.hill(0, 0, 100), BAD);
        due(2, "hills", x.count(0), 10);
        due(2, "refused", x.status(0), bad.length + 2);
        due(2, "refused", x.status(2), 1);
    }

    private static void thing() {
        TwinFires x = new TwinFires();
        x.hill(3, 3, 3);
        due(3, "on a hill", x.thing(STONE, 3, 3, 99, 0), 0);
        due(3, "on a thing", x.thing(WOOD, 3, 3, 0, 9), 1);
        int[][] bad = {{-1, 0, 0, 0, 0}, {6, 0, 0, 0, 0}, {1, -1, 0, 0, 0}, {1, 20, 0, 0, 0}, {1, 0, -1, 0, 0},
            {1, 0, 20, 0, 0}, {1, 0, 0, -1, 0}, {1, 0, 0, 100, 0}, {1, 0, 0, 0, -1}, {1, 0, 0, 0, 10},
            {STONE, 0, 0, 0, 1}, {WALL, 0, 0, 0, 1}, {BIG, 0, 0, 0, 0}, {SMALL, 0, 0, 0, 0}};
        for (int[] b : bad) {
            due(3, "bad " + java.util.Arrays.toString(b), x.thing(b[0], b[1], b[2], b[3], b[4]), BAD);
        }
        due(3, "pine", x.thing(PINE, 0, 0, 1, 1), 2);
        due(3, "hedge", x.thing(HEDGE, 0, 19, 1, 1), 3);
        due(3, "topped", x.thing(TOPPED, 19, 0, 1, 1), 4);
        due(3, "wall", x.thing(WALL, 19, 19, 1, 0), 5);
        due(3, "seventh", x.thing(WALL, 0, 0, 1, 0), 6);
        due(3, "eighth", x.thing(STONE, 0, 0, 1, 0), 7);
        due(3, "a ninth", x.thing(STONE, 0, 0, 1, 0), FULL);
        due(3, "bad ahead of full", x.thing(STONE, 0, 0, 1, 1), BAD);
        due(3, "things", x.count(1), 8);
    }

    private static void put() {
        TwinFires x = new TwinFires();
        int[] least = {0, 0, 0, 1};
        int[] greatest = {99, 99, 3, 10};
        int[] first = {0, 0, 0, 9};
        for (int what = 0; what < 4; what++) {
            due(4, "first " + what, x.put(what, least[what]), first[what]);
            due(4, "least " + what, x.put(what, greatest[what]), least[what]);
            due(4, "too low " + what, x.put(what, least[what] - 1), BAD);
            due(4, "too great " + what, x.put(what, greatest[what] + 1), BAD);
            due(4, "unchanged " + what, x.put(what, greatest[what]), greatest[what]);
        }
        due(4, "none", x.put(-1, 1), BAD);
        due(4, "none", x.put(4, 1), BAD);
        due(4, "none", x.put(BIG, 1), BAD);
        due(4, "none", x.put(SMALL, 1), BAD);
    }

    private static void work() {
        TwinFires x = new TwinFires();
        x.thing(STONE, 0, 0, 7, 0);
        x.thing(WOOD, 0, 0, 8, 0);
        x.thing(WALL, 0, 0, 9, 0);
        due(5, "a stone", x.work(0, true), BAD);
        due(5, "a stone", x.work(0, false), BAD);
        due(5, "none", x.work(3, true), BAD);
        due(5, "none", x.work(-1, true), BAD);
        due(5, "it stands", x.work(1, false), NO);
        due(5, "felled", x.work(1, true), 1);
        due(5, "felled already", x.work(1, true), NO);
        due(5, "a felled wood", x.high(1), 0);
        due(5, "as if not felled", x.work(1, false), 1);
        due(5, "a wood", x.high(1), 8);
        due(5, "a wall at first", x.high(2), 0);
        due(5, "raised", x.work(2, true), 1);
        due(5, "a raised wall", x.high(2), 9);
        due(5, "raised already", x.work(2, true), NO);
        due(5, "torn down", x.work(2, false), 1);
        due(5, "down already", x.work(2, false), NO);
        due(5, "refused", x.status(1), 4);
    }

    private static void cost() {
        TwinFires x = new TwinFires();
        x.thing(STONE, 0, 0, 7, 0);
        due(6, "at first", x.cost(0, 0), 1);
        due(6, "then", x.cost(0, 99), 0);
        due(6, "too dear", x.cost(0, 100), BAD);
        due(6, "too cheap", x.cost(0, -1), BAD);
        due(6, "none", x.cost(1, 1), BAD);
        due(6, "none", x.cost(-1, 1), BAD);
        due(6, "unchanged", x.cost(0, 5), 99);
    }

    private static void high() {
        TwinFires x = new TwinFires();
        for (int kind = 0; kind < 6; kind++) {
            x.thing(kind, 0, 0, 11, kind == STONE || kind == WALL ? 0 : 3);
        }
        long[] year0 = {11, 11, 11, 11, 5, 0};
        long[] year7 = {11, 32, 53, 17, 26, 0};
        long[] year99 = {11, 99, 99, 23, 49, 0};
        highs(x, 0, year0);
        highs(x, 7, year7);
        highs(x, 99, year99);
        for (int kind = 1; kind < 6; kind++) {
            x.work(kind, true);
        }
        highs(x, 99, new long[] {11, 0, 0, 0, 0, 11});
        due(7, "none", x.high(6), BAD);
        due(7, "none", x.high(-1), BAD);
        due(7, "none", x.high(BIG), BAD);
    }

    private static void highs(TwinFires x, int year, long[] want) {
        x.put(YEAR, year);
        for (int i = 0; i < want.length; i++) {
            due(7, "kind " + i + " in year " + year, x.high(i), want[i]);
        }
    }

    private static void sight() {
        TwinFires x = new TwinFires();
        x.hill(0, 0, 10);
        x.hill(9, 0, 40);
        x.thing(STONE, 3, 0, 20, 0);
        due(8, "as high as the line", x.sight(0, 1), 1);
        due(8, "from the other end", x.sight(1, 0), 1);
        x.thing(STONE, 3, 0, 21, 0);
        due(8, "higher than the line", x.sight(0, 1), 0);
        due(8, "from the other end", x.sight(1, 0), 0);
        due(8, "alike", x.sight(1, 1), BAD);
        due(8, "none", x.sight(0, 2), BAD);
        due(8, "none", x.sight(-1, 0), BAD);
        x = new TwinFires();
        x.hill(2, 2, 5);
        x.hill(6, 2, 5);
        x.thing(STONE, 2, 2, 99, 0);
        x.thing(STONE, 6, 2, 99, 0);
        x.thing(STONE, 1, 2, 99, 0);
        x.thing(STONE, 7, 2, 99, 0);
        x.thing(STONE, 4, 3, 99, 0);
        due(8, "at the ends, behind, beside", x.sight(0, 1), 1);
        x.put(MIST, 5);
        due(8, "as high as the mist", x.sight(0, 1), 1);
        x.put(MIST, 6);
        due(8, "lower than the mist", x.sight(0, 1), 0);
        x.put(MIST, 0);
        x.hill(4, 2, 6);
        due(8, "a hill between", x.sight(0, 1), 0);
        due(8, "the hill between", x.sight(0, 2), 1);
    }

    private static void sightByWide() {
        TwinFires x = new TwinFires();
        x.hill(0, 0, 5);
        x.hill(8, 4, 5);
        x.thing(STONE, 4, 4, 99, 0);
        due(8, "wide 0", x.sight(0, 1), 1);
        x.put(WIDE, 1);
        due(8, "wide 1: 16 is more than 8", x.sight(0, 1), 1);
        x.put(WIDE, 2);
        due(8, "wide 2: 16 is no more than 16", x.sight(0, 1), 0);
        due(8, "from the other end", x.sight(1, 0), 0);
    }

    private static void clear() {
        TwinFires x = new TwinFires();
        x.hill(0, 0, 10);
        x.hill(3, 3, 20);
        x.thing(STONE, 1, 0, 15, 0);
        x.thing(WOOD, 2, 2, 1, 1);
        x.thing(STONE, 0, 0, 1, 0);
        x.thing(STONE, 3, 3, 1, 0);
        due(9, "lower", x.clear(0, 1, 0), 1);
        due(9, "above", x.part(0), -10);
        due(9, "below", x.part(1), 3);
        due(9, "at the start", x.clear(0, 1, 2), NO);
        due(9, "at the end", x.clear(0, 1, 3), NO);
        due(9, "alike", x.clear(0, 0, 0), NO);
        due(9, "unchanged", x.part(0), -10);
        due(9, "from the other end", x.clear(1, 0, 0), 1);
        due(9, "above", x.part(0), -10);
        x.put(YEAR, 3);
        due(9, "higher", x.clear(0, 1, 1), 1);
        due(9, "above", x.part(0), 38);
        due(9, "below", x.part(1), 3);
        due(9, "no hill", x.clear(0, 2, 0), BAD);
        due(9, "no hill", x.clear(-1, 1, 0), BAD);
        due(9, "no thing", x.clear(0, 1, 4), BAD);
        due(9, "no thing", x.clear(0, 1, -1), BAD);
        due(9, "unchanged", x.part(0), 38);
        TwinFires y = new TwinFires();
        y.hill(0, 0, 7);
        y.hill(2, 0, 7);
        y.thing(STONE, 1, 5, 7, 0);
        due(9, "as high, far beside", y.clear(0, 1, 0), 1);
        due(9, "above", y.part(0), 0);
        due(9, "below", y.part(1), 1);
    }

    private static void type() {
        TwinFires x = new TwinFires();
        due(10, "no bytes", x.type(1, 0), BAD);
        due(10, "too many bytes", x.type(1, 9), BAD);
        due(10, "fewer", x.type(1, SMALL), BAD);
        due(10, "the lowest three, the highest first", x.type(0xFF79656172313BL, 6), 6);
        due(10, "read", x.land(), 1);
        due(10, "read", x.put(YEAR, 0), 1);
        x.clearText();
        for (int i = 1; i <= 29; i++) {
            due(10, "eight more", x.type(0x2020202020202020L, 8), 8 * i);
        }
        due(10, "seven more", x.type(0x20202020202020L, 7), 239);
        due(10, "two more", x.type(0x2020L, 2), FULL);
        due(10, "bad ahead of full", x.type(0x2020L, 9), BAD);
        due(10, "one more", x.type(0x20L, 1), 240);
        due(10, "one too many", x.type(0x20L, 1), FULL);
        due(10, "blanks alone", x.land(), 0);
        TwinFires y = new TwinFires();
        y.type(-1L, 8);
        due(10, "byte 255 begins no token", y.land(), -10);
    }

    private static void clearText() {
        TwinFires x = new TwinFires();
        due(11, "empty", x.clearText(), 0);
        x.type(1, 5);
        due(11, "five", x.clearText(), 5);
        due(11, "none left", x.count(2), 0);
        due(11, "empty", x.clearText(), 0);
        due(11, "no old bytes", x.land(), 0);
    }

    private static void landReads() {
        TwinFires x = square();
        x.thing(WOOD, 1, 1, 1, 1);
        x.cost(0, 50);
        x.put(YEAR, 5);
        x.put(MIST, 6);
        x.put(WIDE, 1);
        x.put(TRUTH, 4);
        x.report(0, 3);
        x.blame(0, 7);
        x.mist(2, 22);
        x.letter(3);
        x.tell(4, 3, 1);
        String text = "  hill1 2 03;stone 4 5 6 ;wood 7 8 9 1;pine1 1 1 1;hedge 2 2 2 2;topped 3 3 30 3;wall 0 0 9;"
                + "year 12;mist9;wide 3;year 13 ;  ";
        typeAll(x, text);
        due(12, "items", x.land(), 11);
        due(12, "hills", x.count(0), 1);
        due(12, "things", x.count(1), 6);
        long[] high = {6, 22, 27, 8, 49, 0};
        for (int i = 0; i < 6; i++) {
            due(12, "high " + i, x.high(i), high[i]);
            due(12, "cost " + i, x.cost(i, 1), 1);
        }
        due(12, "reports", x.report(0, NONE), NONE);
        due(12, "blame", x.blame(0, 1), 1);
        due(12, "year", x.put(YEAR, 0), 13);
        due(12, "mist", x.put(MIST, 0), 9);
        due(12, "wide", x.put(WIDE, 0), 3);
        due(12, "truth stays", x.put(TRUTH, 4), 4);
        due(12, "mists stay", x.mist(2, 22), 22);
        due(12, "letters stay", x.count(4), 1);
        due(12, "the text stays", x.count(2), text.length());
        due(12, "the hill", x.hill(1, 2, 3), BAD);
        x.put(YEAR, 9);
        x.clearText();
        due(12, "an empty land", x.land(), 0);
        due(12, "no hills", x.count(0), 0);
        due(12, "no year", x.put(YEAR, 0), 0);
        due(12, "refused: items and faults are none", x.status(0), 1);
    }

    private static void landFaults() {
        String[] texts = {"hill 1 2 3", "hil 1 2 3;", "hill 1 2 345;", "hill 1 2;", "hill 1 2 3 4;", "1;", ";", "year 1;;",
            "year 1; mist", "year 1 ; Mist 2;", "hill 1 2 hill;", "year 100;", "yearyear 1;", "year 1 mist 2;",
            "  x", "hill 50 1 1; year", "year -1;", "year 1;\t", "year 1; 007", "wood 1 2 3;", "stone 1 2 3 4;", "hill",
            "bill 1 2 3;", "hilt 1 2 3;", "hills 1 2 3;", "wide 1; hull 1 2 3;"};
        int[] places = {10, 0, 9, 8, 11, 0, 0, 7, 12, 9, 9, 5, 0, 7, 2, 17, 5, 7, 8, 10, 12, 4,
            0, 0, 0, 8};
        for (int i = 0; i < texts.length; i++) {
            due(12, "fault of '" + texts[i] + "'", landOf(texts[i]), -10 - places[i]);
        }
        TwinFires x = square();
        typeAll(x, "year 5; hill 1 1 1; ?");
        due(12, "fault", x.land(), -30);
        due(12, "nothing changes", x.count(0), 4);
        due(12, "nothing changes", x.put(YEAR, 0), 0);
        due(12, "no refusal", x.status(0) + x.status(1) + x.status(2), 0);
    }

    private static void landRefuses() {
        due(12, "place", landOf("year 1; hill 20 0 0;"), -1001);
        due(12, "one place", landOf("hill 1 1 0;year 5; hill 1 1 1;hill 2 2 2;"), -1002);
        due(12, "wide", landOf("wide 4;"), -1000);
        due(12, "grows", landOf("wood 1 1 1 10;"), -1000);
        StringBuilder b = new StringBuilder();
        for (int i = 0; i < 11; i++) {
            b.append("hill").append(i).append(" 0 0;");
        }
        due(12, "full of hills", landOf(b.toString()), -1010);
        due(12, "full of things", landOf("wall0 0 0;".repeat(9)), -1008);
        due(12, "just so many", landOf("wall0 0 0;".repeat(8)), 8);
        due(12, "the fault goes ahead", landOf("wide 4; wide"), -22);
        TwinFires x = square();
        typeAll(x, "hill 9 9 9;wide 4;");
        due(12, "refused", x.land(), -1001);
        due(12, "nothing changes", x.count(0), 4);
        due(12, "no refusal", x.status(0) + x.status(1) + x.status(2), 0);
        typeAll(x, "hill 0 0 0;");
        due(12, "hills of before are gone", x.land(), 1);
    }

    private static void sees() {
        TwinFires x = square();
        due(13, "all others", x.sees(0, 15), 14);
        due(13, "of a set", x.sees(3, 10), 2);
        due(13, "of none", x.sees(2, 0), 0);
        x.thing(STONE, 3, 3, 99, 0);
        due(13, "but one", x.sees(0, 15), 6);
        due(13, "no hill", x.sees(4, 1), BAD);
        due(13, "no hill", x.sees(-1, 1), BAD);
        due(13, "no set", x.sees(0, 16), BAD);
        due(13, "no set", x.sees(0, -1), BAD);
        due(13, "no set", x.sees(0, SMALL), BAD);
        due(13, "no set", x.sees(0, BIG), BAD);
    }

    private static void judge() {
        TwinFires x = chain(5);
        due(14, "lawful", x.judge(3, 0), NONE);
        due(14, "lawful", x.judge(3, 1), NONE);
        due(14, "none lit", x.judge(0, 0), NONE);
        due(14, "two pairs", x.judge(27, 0), NONE);
        due(14, "alone", x.judge(4, 0), 2);
        due(14, "alone", x.judge(4, 1), 0);
        due(14, "between two", x.judge(7, 0), 1);
        due(14, "between two", x.judge(7, 1), 2);
        due(14, "what", x.judge(3, 2), BAD);
        due(14, "what", x.judge(3, -1), BAD);
        due(14, "set", x.judge(32, 0), BAD);
        due(14, "set", x.judge(-1, 0), BAD);
    }

    private static void most() {
        TwinFires x = chain(6);
        due(15, "fires", x.most(NONE, 0), 4);
        due(15, "the least bits", x.most(NONE, 1), 27);
        due(15, "with hill 5", x.most(5, 1), 51);
        due(15, "with hill 2", x.most(2, 1), 54);
        x.hill(0, 9, 0);
        x.put(MIST, 1);
        due(15, "in no such set", x.most(6, 0), NO);
        due(15, "no hill", x.most(7, 0), BAD);
        due(15, "no hill", x.most(-2, 0), BAD);
        due(15, "what", x.most(0, 2), BAD);
        due(15, "what", x.most(0, -1), BAD);
        TwinFires none = new TwinFires();
        due(15, "no hills", none.most(NONE, 0), 0);
        due(15, "no hills", none.most(NONE, 1), 0);
        due(15, "no hills", none.most(0, 1), BAD);
    }

    private static void lawful() {
        TwinFires x = chain(6);
        // Pairs: 5; two pairs apart: 01-34, 01-45, 12-45.
        due(16, "any", x.lawful(NONE), 9);
        due(16, "none", x.lawful(0), 1);
        due(16, "one", x.lawful(1), 0);
        due(16, "two", x.lawful(2), 5);
        due(16, "four", x.lawful(4), 3);
        due(16, "ten", x.lawful(10), 0);
        due(16, "eleven", x.lawful(11), BAD);
        due(16, "fewer", x.lawful(-2), BAD);
        due(16, "ten hills", chain(10).lawful(NONE), 41);
    }

    private static void years() {
        TwinFires x = new TwinFires();
        x.hill(0, 0, 10);
        x.hill(4, 0, 10);
        x.thing(HEDGE, 2, 0, 4, 3);
        // 4, 7, 10 high in years 0, 1, 2 by 5; 13, 16 behind that.
        due(17, "years 0 to 9", x.years(3), 0b0011100111);
        x.put(YEAR, 3);
        due(17, "years 3 to 12", x.years(3), 0b1110011100);
        x.put(YEAR, 97);
        // 97, 98, 99: 2, 3, 4 by 5, and 99 from there on.
        due(17, "99 at most", x.years(3), 1);
        x.put(YEAR, 96);
        due(17, "99 at most", x.years(3), 3);
        due(17, "none lit", x.years(0), 1023);
        due(17, "alone", x.years(1), 0);
        due(17, "set", x.years(4), BAD);
        due(17, "set", x.years(-1), BAD);
        TwinFires y = new TwinFires();
        y.hill(0, 0, 10);
        y.hill(4, 0, 10);
        y.put(YEAR, 95);
        due(17, "all of them", y.years(3), 1023);
        y.put(MIST, 11);
        due(17, "in mist", y.years(3), 0);
    }

    private static void mistAndHours() {
        TwinFires x = new TwinFires();
        x.hill(0, 0, 10);
        x.hill(4, 0, 20);
        due(18, "at first", x.mist(0, 10), 0);
        due(18, "then", x.mist(0, 11), 10);
        due(18, "last hour", x.mist(11, 99), 0);
        due(18, "hour", x.mist(12, 0), BAD);
        due(18, "hour", x.mist(-1, 0), BAD);
        due(18, "mist", x.mist(0, 100), BAD);
        due(18, "mist", x.mist(0, -1), BAD);
        due(18, "unchanged", x.mist(0, 11), 11);
        x.mist(5, 10);
        due(19, "hours", x.hours(3), 0b011111111110);
        x.put(MIST, 99);
        due(19, "by their own mist alone", x.hours(3), 0b011111111110);
        due(19, "none lit", x.hours(0), 4095);
        due(19, "alone", x.hours(2), 0);
        due(19, "set", x.hours(4), BAD);
        due(19, "set", x.hours(-1), BAD);
    }

    private static TwinFires woods() {
        TwinFires x = new TwinFires();
        x.hill(0, 0, 10);
        x.hill(6, 0, 10);
        x.hill(0, 6, 10);
        x.thing(STONE, 9, 9, 50, 0);
        x.thing(WOOD, 2, 0, 50, 0);
        x.thing(PINE, 3, 0, 50, 0);
        x.thing(WALL, 0, 3, 50, 0);
        x.thing(WALL, 0, 4, 50, 0);
        x.thing(WALL, 3, 3, 50, 0);
        return x;
    }

    private static void fewest() {
        TwinFires x = woods();
        due(20, "two woods", x.fewest(3, 0), 2);
        due(20, "their bits", x.fewest(3, 1), 6);
        due(20, "nothing", x.fewest(5, 0), 0);
        due(20, "nothing", x.fewest(5, 1), 0);
        due(20, "nothing for none", x.fewest(0, 1), 0);
        due(20, "alone", x.fewest(1, 0), NONE);
        due(20, "alone", x.fewest(1, 1), NONE);
        due(20, "three never are", x.fewest(7, 0), NONE);
        x.work(1, true);
        due(20, "one wood is felled", x.fewest(3, 1), 4);
        x.work(2, true);
        due(20, "both are", x.fewest(3, 1), 0);
        x.hill(6, 6, 10);
        // Each sees each: 0-3 by 5 and the sides 0-2 by 3 or 4, but 1-3 and 2-3 have nothing to hide them.
        due(20, "a square", x.fewest(15, 0), NONE);
        x.work(3, true);
        due(20, "a raised wall is no work", x.fewest(5, 0), NONE);
        due(20, "set", x.fewest(16, 0), BAD);
        due(20, "set", x.fewest(-1, 0), BAD);
        due(20, "what", x.fewest(3, 2), BAD);
        due(20, "what", x.fewest(3, -1), BAD);
        TwinFires y = square();
        y.thing(WALL, 3, 3, 50, 0);
        y.thing(WALL, 0, 2, 50, 0);
        y.thing(WALL, 0, 3, 50, 0);
        y.thing(WALL, 6, 3, 50, 0);
        due(20, "walls to raise", y.fewest(15, 0), 3);
        due(20, "the least bits", y.fewest(15, 1), 0b1011);
    }

    private static void cheapest() {
        TwinFires x = square();
        x.thing(WALL, 3, 3, 50, 0);
        x.thing(WALL, 0, 2, 50, 0);
        x.thing(WALL, 0, 3, 50, 0);
        x.thing(WALL, 6, 3, 50, 0);
        due(21, "all cost 1", x.cheapest(15, 0), 3);
        due(21, "the least bits", x.cheapest(15, 1), 0b1011);
        x.cost(1, 5);
        x.cost(2, 4);
        x.cost(3, 0);
        due(21, "the cheaper wall", x.cheapest(15, 0), 5);
        due(21, "its bits", x.cheapest(15, 1), 0b1101);
        x.cost(1, 0);
        x.cost(2, 0);
        due(21, "of like ones the least bits", x.cheapest(15, 1), 0b1011);
        due(21, "nothing", x.cheapest(3, 0), 0);
        due(21, "nothing", x.cheapest(3, 1), 0);
        due(21, "alone", x.cheapest(1, 0), NONE);
        due(21, "alone", x.cheapest(1, 1), NONE);
        due(21, "set", x.cheapest(16, 0), BAD);
        due(21, "what", x.cheapest(15, 2), BAD);
        TwinFires y = square();
        y.thing(STONE, 0, 3, 50, 0);
        y.thing(STONE, 6, 3, 50, 0);
        // A wall in the middle hides both diagonals, the others hide one each.
        y.thing(WALL, 3, 3, 50, 0);
        y.thing(WALL, 2, 2, 50, 0);
        y.thing(WALL, 4, 2, 50, 0);
        due(21, "one wall", y.cheapest(15, 1), 0b00100);
        y.cost(2, 3);
        due(21, "two are cheaper than one", y.cheapest(15, 0), 2);
        due(21, "their bits", y.cheapest(15, 1), 0b11000);
        due(20, "but one is the fewest", y.fewest(15, 1), 0b00100);
        y.cost(2, 2);
        due(21, "alike: the least bits", y.cheapest(15, 1), 0b00100);
    }

    private static void tower() {
        TwinFires x = new TwinFires();
        x.hill(0, 0, 50);
        due(22, "alone", x.tower(0), 0);
        x.put(MIST, 20);
        due(22, "alone in mist", x.tower(0), 0);
        x.hill(4, 0, 20);
        due(22, "as high as the mist", x.tower(0), 20);
        x.put(MIST, 21);
        due(22, "the other one is too low", x.tower(0), NONE);
        due(22, "as high as the mist", x.tower(1), 21);
        x.put(MIST, 0);
        due(22, "nothing between", x.tower(0), 0);
        x.thing(STONE, 1, 0, 30, 0);
        // 3 h and 20 times 1 are at least 4 times 30: h is 34.
        due(22, "over a stone", x.tower(0), 34);
        x.thing(STONE, 3, 0, 40, 0);
        // h and 3 times 20 are at least 4 times 40: h is 100.
        due(22, "too high", x.tower(0), NONE);
        due(22, "its height stays", x.sight(0, 1), 0);
        due(22, "from the other end", x.tower(1), 37);
        due(22, "none", x.tower(2), BAD);
        due(22, "none", x.tower(-1), BAD);
        TwinFires y = new TwinFires();
        y.hill(0, 0, 0);
        y.hill(2, 0, 99);
        y.hill(4, 0, 99);
        due(22, "99 is high enough", y.tower(0), 99);
    }

    private static void row() {
        TwinFires x = chain(5);
        // LAWFUL: 0, 3, 6, 12, 24, 27.
        due(23, "hours", x.row(3, 24, NONE), 2);
        due(23, "first", x.row(3, 24, 0), 3);
        due(23, "the least way", x.row(3, 24, 1), 0);
        due(23, "last", x.row(3, 24, 2), 24);
        due(23, "behind it", x.row(3, 24, 3), -5);
        due(23, "behind it", x.row(3, 24, BIG), -5);
        due(23, "one hour", x.row(3, 6, NONE), 1);
        due(23, "two pairs", x.row(6, 27, NONE), 2);
        due(23, "by the least set", x.row(6, 27, 1), 3);
        due(23, "itself", x.row(27, 27, NONE), 0);
        due(23, "itself", x.row(27, 27, 0), 27);
        due(23, "behind it", x.row(27, 27, 1), -5);
        due(23, "not lawful", x.row(1, 3, NONE), -20);
        due(23, "not lawful", x.row(3, 1, NONE), -20);
        due(23, "set", x.row(32, 3, NONE), -10);
        due(23, "set", x.row(3, -1, NONE), -10);
        due(23, "bad ahead of no", x.row(1, 3, -2), -10);
        due(23, "i", x.row(3, 3, SMALL), -10);
        due(23, "counted as BAD", x.status(0), 4);
        due(23, "counted as NO", x.status(1), 2);
    }

    private static void reach() {
        TwinFires x = chain(5);
        due(24, "itself", x.reach(27, 0), 1);
        due(24, "an hour", x.reach(27, 1), 3);
        due(24, "two hours", x.reach(27, 2), 6);
        due(24, "all", x.reach(27, 99), 6);
        due(24, "an hour from none", x.reach(0, 1), 5);
        due(24, "not lawful", x.reach(1, 1), NO);
        due(24, "n", x.reach(0, 100), BAD);
        due(24, "n", x.reach(0, -1), BAD);
        due(24, "set", x.reach(32, 1), BAD);
        due(24, "set", x.reach(-1, 1), BAD);
    }

    private static void words() {
        TwinFires x = chain(5);
        due(25, "as it is", x.words(27, 0, 0), 1);
        // Hill 0 sees itself and 1: of 27, 3 and 24 behind an hour.
        due(25, "an hour", x.words(27, 0, 1), 2);
        // 0, 3, 6, 12, 24, 27 are 0, 3, 2, 0, 0, 3 there.
        due(25, "two hours", x.words(27, 0, 2), 3);
        due(25, "six hours", x.words(27, 2, 6), 6);
        due(25, "in the middle", x.words(0, 2, 1), 5);
        due(25, "not lawful", x.words(1, 0, 1), NO);
        due(25, "n", x.words(0, 0, 7), BAD);
        due(25, "n", x.words(0, 0, -1), BAD);
        due(25, "town", x.words(0, 5, 1), BAD);
        due(25, "town", x.words(0, -1, 1), BAD);
        due(25, "set", x.words(32, 0, 1), BAD);
    }

    private static void byMists() {
        TwinFires x = chain(5);
        due(26, "hour", x.byMists(3, 24, NONE), 2);
        due(26, "first", x.byMists(3, 24, 0), 3);
        due(26, "second", x.byMists(3, 24, 1), 0);
        due(26, "last", x.byMists(3, 24, 2), 24);
        due(26, "there ahead of that", x.byMists(3, 24, 3), -5);
        due(26, "there ahead of that", x.byMists(3, 24, 11), -5);
        due(26, "hour 12 is none", x.byMists(3, 24, 12), -10);
        due(26, "itself", x.byMists(3, 3, NONE), 0);
        due(26, "never lawful", x.byMists(3, 1, NONE), -6);
        due(26, "never lawful", x.byMists(3, 1, 0), -6);
        // In hours 1 to 3 no hill is above the mist: only none lit is lawful.
        for (int hour = 1; hour < 4; hour++) {
            x.mist(hour, 99);
        }
        due(26, "waits", x.byMists(3, 24, NONE), 4);
        due(26, "waits", x.byMists(3, 24, 1), 0);
        due(26, "waits", x.byMists(3, 24, 3), 0);
        due(26, "waits", x.byMists(3, 24, 4), 24);
        due(26, "two pairs have no way out", x.byMists(27, 24, NONE), -6);
        x.put(MIST, 99);
        due(26, "by the hours' mist alone", x.byMists(3, 24, NONE), 4);
        x.mist(0, 99);
        due(26, "not lawful in hour 0", x.byMists(3, 24, NONE), -20);
        due(26, "not lawful in hour 0", x.byMists(3, 3, 0), -20);
        for (int hour = 1; hour < 12; hour++) {
            x.mist(hour, 99);
        }
        due(26, "not by hour 11", x.byMists(0, 3, NONE), -6);
        x.mist(11, 10);
        due(26, "in hour 11", x.byMists(0, 3, NONE), 11);
        due(26, "set", x.byMists(32, 3, NONE), -10);
        due(26, "set", x.byMists(3, -1, NONE), -10);
        due(26, "i", x.byMists(3, 3, -2), -10);
        due(26, "counted as BAD", x.status(0), 4);
        due(26, "counted as NO", x.status(1), 2);
    }

    private static void letters() {
        TwinFires x = new TwinFires();
        due(27, "letter", x.letter(10), BAD);
        due(27, "letter", x.letter(-1), BAD);
        for (int i = 1; i <= 8; i++) {
            due(27, "so many", x.letter(i + 1), i);
        }
        due(27, "a ninth", x.letter(0), FULL);
        due(27, "bad ahead of full", x.letter(10), BAD);
        due(28, "had", x.unword(), 8);
        due(28, "has none", x.count(4), 0);
        due(28, "had none", x.unword(), 0);
        due(27, "the first again", x.letter(0), 1);
    }

    private static void toldIn() {
        TwinFires x = chain(5);
        due(29, "no word", x.toldIn(3, 0), 0);
        x.letter(2);
        due(29, "at once", x.toldIn(3, 0), 0);
        due(29, "behind an hour", x.toldIn(0, 0), 1);
        due(29, "from afar", x.toldIn(24, 0), 1);
        x.letter(2);
        due(29, "one in an hour", x.toldIn(3, 0), 1);
        x.letter(1);
        // 3, 3, 6 are seen from 0 as two, two, one.
        due(29, "2 2 1", x.toldIn(3, 0), 2);
        x.letter(0);
        due(29, "2 2 1 0", x.toldIn(3, 0), 3);
        due(29, "from two pairs: 27, 3, 6, 0", x.toldIn(27, 0), 3);
        x.letter(3);
        due(29, "never three", x.toldIn(3, 0), NONE);
        due(29, "not lawful", x.toldIn(1, 0), -20);
        due(29, "set", x.toldIn(32, 0), -10);
        due(29, "town", x.toldIn(3, 5), -10);
        due(29, "town", x.toldIn(3, -1), -10);
        due(29, "bad ahead of no", x.toldIn(1, 5), -10);
        due(29, "counted as BAD", x.status(0), 4);
        due(29, "counted as NO", x.status(1), 1);
    }

    private static void report() {
        TwinFires x = chain(3);
        due(30, "none at first", x.report(0, 0), NONE);
        due(30, "then", x.report(0, 9), 0);
        due(30, "n", x.report(0, 10), -10);
        due(30, "n", x.report(0, -2), -10);
        due(30, "hill", x.report(3, 1), -10);
        due(30, "hill", x.report(-1, 1), -10);
        due(30, "told none", x.report(0, NONE), 9);
        due(30, "none", x.report(0, NONE), NONE);
        due(30, "counted as BAD", x.status(0), 4);
    }

    private static void blameAndWithout() {
        TwinFires x = chain(5);
        due(31, "at first", x.blame(4, 0), 1);
        due(31, "then", x.blame(4, 9), 0);
        due(31, "too much", x.blame(4, 10), BAD);
        due(31, "too little", x.blame(4, -1), BAD);
        due(31, "hill", x.blame(5, 1), BAD);
        due(31, "hill", x.blame(-1, 1), BAD);
        due(31, "unchanged", x.blame(4, 1), 9);
        due(32, "no reports: all others", x.without(3), 28);
        x.report(1, 1);
        due(32, "hill 1 sees no third", x.without(3), 24);
        x.report(3, 1);
        due(32, "hill 3, that is not lit, sees one: itself it does not", x.without(3), 16);
        x.report(0, 0);
        due(32, "none can be", x.without(3), 0);
        due(32, "not lawful", x.without(1), NO);
        due(32, "set", x.without(32), BAD);
        due(32, "set", x.without(-1), BAD);
        TwinFires y = chain(3);
        y.report(1, 0);
        due(32, "none lit: only the keeper itself", y.without(0), 2);
    }

    private static void chance() {
        TwinFires x = chain(5);
        x.blame(2, 2);
        x.blame(3, 4);
        x.blame(4, 0);
        due(33, "of these", x.chance(3, 2), 1);
        due(33, "above", x.part(0), 1);
        due(33, "below", x.part(1), 3);
        due(33, "of these", x.chance(3, 3), 1);
        due(33, "above", x.part(0), 2);
        due(33, "without blame", x.chance(3, 4), 1);
        due(33, "above", x.part(0), 0);
        due(33, "below", x.part(1), 1);
        x.chance(3, 3);
        due(33, "one of the set is none of these", x.chance(3, 0), 1);
        due(33, "above", x.part(0), 0);
        due(33, "below", x.part(1), 1);
        x.chance(3, 3);
        x.blame(2, 0);
        x.blame(3, 0);
        due(33, "all are 0", x.chance(3, 3), NO);
        due(33, "unchanged", x.part(0), 2);
        x.blame(3, 4);
        x.report(0, 5);
        due(33, "there is none", x.chance(3, 3), NO);
        due(33, "not lawful", x.chance(1, 3), NO);
        due(33, "hill", x.chance(3, 5), BAD);
        due(33, "hill", x.chance(3, -1), BAD);
        due(33, "set", x.chance(32, 3), BAD);
        due(33, "bad ahead of no", x.chance(1, 5), BAD);
    }

    private static void lies() {
        TwinFires x = chain(5);
        due(34, "no reports", x.lies(3, 2), 1);
        due(34, "above", x.part(0), 1);
        due(34, "below", x.part(1), 3);
        x.report(1, 1);
        x.report(3, 1);
        x.blame(3, 2);
        // Of 3: hill 2 makes one lie, one true (9); hill 3 one lie (18); hill 4 none (81).
        due(34, "hill 2", x.lies(3, 2), 1);
        due(34, "above", x.part(0), 1);
        due(34, "below", x.part(1), 12);
        due(34, "hill 3", x.lies(3, 3), 1);
        due(34, "above", x.part(0), 1);
        due(34, "below", x.part(1), 6);
        due(34, "hill 4", x.lies(3, 4), 1);
        due(34, "above", x.part(0), 3);
        due(34, "below", x.part(1), 4);
        x.put(TRUTH, 10);
        due(34, "no lies", x.lies(3, 4), 1);
        due(34, "above", x.part(0), 1);
        due(34, "below", x.part(1), 1);
        x.blame(4, 0);
        due(34, "all are 0", x.lies(3, 4), NO);
        due(34, "not lawful", x.lies(1, 4), NO);
        due(34, "one of the set", x.lies(3, 0), BAD);
        due(34, "hill", x.lies(3, 5), BAD);
        due(34, "set", x.lies(32, 0), BAD);
        due(34, "unchanged", x.part(0), 1);
        TwinFires y = chain(10);
        for (int i = 0; i < 10; i++) {
            y.report(i, 9);
            y.blame(i, 9);
        }
        y.put(TRUTH, 1);
        due(34, "great numbers", y.lies(0, 7), 1);
        due(34, "above", y.part(0), 1);
        due(34, "below", y.part(1), 10);
    }

    private static void tell() {
        TwinFires x = chain(3);
        due(35, "lit", x.tell(0, 2, 1), 1);
        due(35, "put out", x.tell(11, 2, 0), 1);
        due(35, "nothing", x.tell(0, NONE, 0), 1);
        due(35, "nothing lit", x.tell(0, NONE, 1), BAD);
        due(35, "hour", x.tell(12, 0, 1), BAD);
        due(35, "hour", x.tell(-1, 0, 1), BAD);
        due(35, "hour", x.tell(12, NONE, 0), BAD);
        due(35, "hill", x.tell(0, 3, 1), BAD);
        due(35, "hill", x.tell(0, -2, 0), BAD);
        due(35, "how", x.tell(0, 0, 2), BAD);
        due(35, "how", x.tell(0, 0, -1), BAD);
        due(35, "refused", x.status(0), 8);
    }

    private static void night() {
        TwinFires x = chain(5);
        due(36, "nothing told: no hour", x.night(3, 0), NONE);
        due(36, "nothing told: all hours", x.night(3, 1), 12);
        due(36, "nothing told: the same set", x.night(3, 2), 3);
        due(36, "not lawful at all", x.night(1, 0), 0);
        due(36, "not lawful at all", x.night(1, 1), 0);
        x.tell(2, 3, 1);
        x.tell(5, 4, 1);
        due(36, "alone in hours 2 to 4", x.night(3, 0), 2);
        due(36, "how many", x.night(3, 1), 9);
        due(36, "the last set", x.night(3, 2), 27);
        due(36, "lit that is", x.night(24, 2), NO);
        x.mist(0, 12);
        due(36, "by the mist of the hour", x.night(3, 0), 0);
        due(36, "by the mist of the hour", x.night(3, 1), 8);
        x.mist(0, 0);
        x.tell(7, 2, 0);
        due(36, "put out that is not", x.night(3, 0), NO);
        x.tell(7, 4, 0);
        due(36, "put out again", x.night(3, 2), 11);
        due(36, "set", x.night(32, 0), BAD);
        due(36, "what", x.night(3, 3), BAD);
        due(36, "what", x.night(3, -1), BAD);
        typeAll(x, "hill 0 0 9; hill 1 0 9; hill 2 0 9;");
        due(36, "a land of three", x.land(), 3);
        due(36, "hills that are not there: nothing", x.night(3, 1), 12);
        due(36, "hills that are not there: nothing", x.night(3, 2), 3);
    }

    private static void part() {
        TwinFires x = new TwinFires();
        due(37, "above", x.part(0), 0);
        due(37, "below", x.part(1), 1);
        due(37, "another", x.part(2), -1000000);
        due(37, "another", x.part(-1), -1000000);
        due(37, "counted as BAD", x.status(0), 2);
    }

    private static void images() {
        TwinFires x = chain(5);
        x.thing(WOOD, 1, 0, 3, 3);
        x.cost(0, 7);
        x.put(YEAR, 1);
        x.put(MIST, 2);
        x.put(WIDE, 3);
        x.put(TRUTH, 4);
        x.mist(3, 5);
        x.letter(6);
        x.report(1, 2);
        x.blame(1, 3);
        x.tell(4, 2, 1);
        due(38, "no such one", x.image(2), BAD);
        due(38, "no such one", x.image(-1), BAD);
        due(39, "no such one", x.from(2), BAD);
        due(39, "no such one", x.from(-1), BAD);
        due(39, "not kept", x.from(1), NO);
        due(38, "kept", x.image(1), 1);
        due(39, "the other is not", x.from(0), NO);
        long was = x.digest();
        x.work(0, true);
        x.cost(0, 8);
        x.hill(9, 9, 9);
        x.thing(STONE, 5, 5, 5, 0);
        x.put(YEAR, 11);
        x.put(MIST, 12);
        x.put(WIDE, 0);
        x.put(TRUTH, 5);
        x.mist(3, 50);
        x.letter(7);
        x.report(1, NONE);
        x.blame(1, 9);
        x.tell(4, NONE, 0);
        due(38, "kept", x.image(0), 1);
        long then = x.digest();
        due(39, "back", x.from(1), 1);
        due(39, "all of it", x.digest(), was);
        x.blame(1, 1);
        due(39, "back", x.from(1), 1);
        due(39, "the image has not changed", x.digest(), was);
        due(39, "the other", x.from(0), 1);
        due(39, "all of it", x.digest(), then);
        x.type(7, 3);
        x.image(1);
        x.clear(0, 4, 0);
        x.clearText();
        long above = x.part(0);
        x.from(1);
        due(39, "the text is not kept", x.count(2), 0);
        due(39, "the fraction is not kept", x.part(0), above);
        due(39, "nor refusals", x.status(0), 4);
        due(39, "an image keeps no images", x.from(0), 1);
    }

    private static void status() {
        TwinFires x = new TwinFires();
        x.hill(-1, 0, 0);
        x.from(0);
        x.from(0);
        for (int i = 0; i < 9; i++) {
            x.letter(i);
        }
        due(40, "bad", x.status(0), 1);
        due(40, "no", x.status(1), 2);
        due(40, "full", x.status(2), 1);
        due(40, "another", x.status(3), -1);
        due(40, "another", x.status(-1), -1);
        due(40, "these count", x.status(0), 3);
        x.type(1, 1);
        x.land();
        due(40, "a fault counts not", x.status(0) + x.status(1) + x.status(2), 6);
        x.row(0, 0, 9);
        x.byMists(0, 0, 9);
        due(40, "-5 counts not", x.status(0) + x.status(1) + x.status(2), 6);
    }

    private static void count() {
        TwinFires x = chain(3);
        x.thing(WOOD, 1, 1, 1, 1);
        x.type(1, 7);
        x.report(2, 0);
        x.report(1, 1);
        for (int i = 0; i < 4; i++) {
            x.letter(i);
        }
        due(41, "hills", x.count(0), 3);
        due(41, "things", x.count(1), 1);
        due(41, "bytes", x.count(2), 7);
        due(41, "reports", x.count(3), 2);
        due(41, "letters", x.count(4), 4);
        due(41, "another", x.count(5), BAD);
        due(41, "another", x.count(-1), BAD);
    }

    private static void digest() {
        TwinFires x = new TwinFires();
        x.hill(1, 2, 3);
        x.hill(4, 5, 6);
        x.report(1, 2);
        x.blame(0, 7);
        x.thing(WOOD, 2, 3, 4, 5);
        x.work(0, true);
        x.cost(0, 6);
        x.put(YEAR, 7);
        x.put(MIST, 2);
        x.put(WIDE, 1);
        x.put(TRUTH, 3);
        x.mist(1, 44);
        x.letter(4);
        x.letter(5);
        x.tell(11, 1, 1);
        x.type(0, 3);
        due(42, "a fraction", x.clear(0, 1, 0), 1);
        long[] all = {2, 1, 3, 1, 2, 1, 2, 3, -1, 7, 4, 5, 6, 2, 1, 1, 2, 3, 4, 5, 1, 6, 7, 2, 1, 3,
            0, 44, 0, 0, 0, 0, 0, 0, 0, 0, 0, 0, 4, 5,
            -1, 0, -1, 0, -1, 0, -1, 0, -1, 0, -1, 0, -1, 0, -1, 0, -1, 0, -1, 0, -1, 0, 1, 1, 4, 1};
        long h = 619;
        for (long v : all) {
            h = 31 * h + v;
        }
        due(42, "digest", x.digest(), h);
        x.count(9);
        due(42, "refusals are not in it", x.digest(), h);
    }
}
