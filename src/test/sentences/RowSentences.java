/** Rows from set to set, and words: their terms, and promises 23 to 29. */
final class RowSentences {
    private static final int TERMS = Sentences.TERMS, BIG = Sentences.BIG, SMALL = Sentences.SMALL;
    private static final int NONE = TwinFires.NONE, BAD = TwinFires.BAD, NO = TwinFires.NO;
    private static final int STONE = Lands.STONE, MIST = Lands.MIST;
    private final Sentences t;

    RowSentences(Sentences t) {
        this.t = t;
    }

    void all() {
        termsOfRows();
        termsOfFewestHours();
        termsOfLikeRows();
        termsOfReach();
        termsOfViews();
        termsOfViewsNo();
        termsOfMists();
        termsOfMistsChanges();
        termsOfMistsFirst();
        termsOfMistsNo();
        termsOfWord();
        termsOfTold();
        termsOfToldOneByOne();
        termsOfToldHours();
        row();
        rowRefuses();
        reach();
        words();
        byMists();
        byMistsRefuses();
        letter();
        unword();
        toldIn();
    }

    /** A row by its hours and each of its SETS, and that there are no more. */
    private void isRow(TwinFires x, int... sets) {
        int from = sets[0];
        int to = sets[sets.length - 1];
        String what = "row from " + from + " to " + to;
        t.asks(what, x, y -> y.row(from, to, NONE), sets.length - 1);
        for (int i = 0; i < sets.length; i++) {
            int at = i;
            t.asks(what + " at " + i, x, y -> y.row(from, to, at), sets[i]);
        }
        t.asks(what + ", no more", x, y -> y.row(from, to, sets.length), -5);
    }

    private void isRowByMists(TwinFires x, int... sets) {
        int from = sets[0];
        int to = sets[sets.length - 1];
        String what = "by mists from " + from + " to " + to;
        t.asks(what, x, y -> y.byMists(from, to, NONE), sets.length - 1);
        for (int i = 0; i < sets.length; i++) {
            int at = i;
            t.asks(what + " in hour " + i, x, y -> y.byMists(from, to, at), sets[i]);
        }
        if (sets.length < 12) {
            t.asks(what + ", there ahead", x, y -> y.byMists(from, to, sets.length), -5);
        }
    }

    private void termsOfRows() {
        t.says(TERMS, "A ROW from a SET to a SET (both LAWFUL):");
        TwinFires x = Lands.chain(5);
        isRow(x, 0);
        isRow(x, 27);
        t.refuses("from one that is not", x, y -> y.row(1, 0, NONE), -20, NO);
        t.refuses("to one that is not", x, y -> y.row(0, 1, NONE), -20, NO);
        t.refuses("to itself that is not", x, y -> y.row(1, 1, NONE), -20, NO);
        isRow(new TwinFires(), 0);
        t.says(TERMS, "hour by hour one or two HILLS change (lit or put out), each time to a LAWFUL SET:");
        isRow(x, 0, 3);
        isRow(x, 3, 0);
        isRow(x, 3, 6);
        isRow(x, 27, 24);
        // 0 to 27 are four changes: not in one hour.
        isRow(x, 0, 3, 27);
        // Nor are 3 to 12, as hills 0 and 3, 0 and 2, 1 and 3 do not see each other.
        isRow(x, 3, 0, 12);
        TwinFires square = Lands.square();
        isRow(square, 3, 5);
        isRow(square, 3, 0, 12);
    }

    private void termsOfFewestHours() {
        t.says(TERMS, "the fewest hours;");
        TwinFires x = Lands.chain(5);
        // By 3 and 0 it would be three hours.
        isRow(x, 27, 24, 12);
        isRow(x, 12, 24, 27);
        TwinFires long10 = Lands.chain(10);
        // Each is the only way: 0 1 goes out, 3 4 goes on to 2 3, 6 7 to 5 6, 8 9 are lit.
        isRow(long10, 219, 216, 204, 108, 876);
        TwinFires twins = Lands.twins();
        isRow(twins, 1023, 255, 63, 15, 3, 0);
        isRow(twins, 0, 3, 15, 63, 255, 1023);
        isRow(twins, 3 | 48 | 768, 3 | 48, 3, 0, 12, 12 | 192);
    }

    private void termsOfLikeRows() {
        t.says(TERMS, "of like rows the first by their SETS (each as a number, the first one ahead).");
        TwinFires x = Lands.chain(5);
        // By 0 or by 27.
        isRow(x, 3, 0, 24);
        isRow(x, 24, 0, 3);
        TwinFires six = Lands.chain(6);
        // By 0 and 3, 0 and 48, 6 and 3, 6 and 54, 24 and 27, 24 and 48.
        isRow(six, 12, 0, 3, 51);
        isRow(six, 51, 3, 0, 12);
        // By none lit, or by any pair but these two.
        TwinFires square = Lands.square();
        isRow(square, 6, 0, 9);
        isRow(square, 9, 0, 6);
        TwinFires town = Lands.town();
        // From the town and hill 7 to hills 0 and 1: by none lit, or by the town and 0 or 1.
        isRow(town, 256 | 128, 0, 3);
        isRow(town, 3, 0, 256 | 128);
        TwinFires twins = Lands.twins();
        isRow(twins, 15, 3, 51);
        isRow(twins, 15, 3, 0, 48, 240);
    }

    private void termsOfReach() {
        t.says(TERMS, "REACH: how many LAWFUL SETS there are to which a ROW of n hours at most leads (itself, too).");
        TwinFires x = Lands.chain(10);
        // 1, 9, 21, 10 SETS of no, one, two, three pairs.
        int[] due = {1, 10, 31, 41, 41};
        for (int i = 0; i < due.length; i++) {
            int n = i;
            t.asks("n " + n, x, y -> y.reach(0, n), due[n]);
        }
        t.asks("n 99", x, y -> y.reach(0, 99), 41);
        TwinFires twins = Lands.twins();
        int[] pairs = {1, 6, 16, 26, 31, 32, 32};
        for (int i = 0; i < pairs.length; i++) {
            int n = i;
            t.asks("from all, n " + n, twins, y -> y.reach(1023, n), pairs[n]);
            t.asks("from none, n " + n, twins, y -> y.reach(0, n), pairs[n]);
        }
        t.asks("no hills", new TwinFires(), y -> y.reach(0, 0), 1);
        t.asks("no hills", new TwinFires(), y -> y.reach(0, 99), 1);
    }

    private void termsOfViews() {
        t.says(TERMS, "VIEWS: how many unlike things a TOWN (a HILL) may see behind just n hours");
        TwinFires x = Lands.chain(10);
        t.asks("just as it is", x, y -> y.words(3, 0, 0), 1);
        // Hill 4 sees 3, 4, 5: none, 3, 3 4, 4 5, 5 by one pair, 3 and 5 by two.
        t.asks("an hour", x, y -> y.words(0, 4, 1), 5);
        t.asks("two hours", x, y -> y.words(0, 4, 2), 6);
        t.says(TERMS, "(0 .. 6;");
        t.asks("least", x, y -> y.words(0, 4, 0), 1);
        t.asks("greatest", x, y -> y.words(0, 4, 6), 6);
        for (int v : Sentences.outside(0, 6)) {
            t.bad("n " + v, x, y -> y.words(0, 4, v));
        }
        t.says(TERMS, "in an hour nothing may change, too):");
        // Each hour one pair may change at most; that the first view is there still needs an hour without a change.
        TwinFires two = Lands.two();
        t.asks("behind an hour", two, y -> y.words(3, 0, 1), 2);
        t.asks("behind two hours", two, y -> y.words(3, 0, 2), 2);
        t.asks("behind six hours", two, y -> y.words(3, 0, 6), 2);
        TwinFires one = new TwinFires();
        one.hill(1, 1, 1);
        t.asks("nothing can change", one, y -> y.words(0, 0, 6), 1);
        t.says(TERMS, "fires in its SIGHT, and its own.");
        // Hill 0 sees 0 and 1 alone: none, 0 1, 1 (of 1 2).
        t.asks("hill 0", x, y -> y.words(0, 0, 1), 3);
        t.asks("hill 0", x, y -> y.words(0, 0, 6), 3);
        TwinFires town = Lands.town();
        t.asks("the town sees each pair, itself and each one", town, y -> y.words(0, 8, 1), 1 + 4 + 8);
        t.asks("two pairs", town, y -> y.words(0, 8, 2), 1 + 4 + 8 + 6);
        t.asks("all", town, y -> y.words(0, 8, 4), 24);
        // Hill 0 sees 0, 1, 8: none, 0 1, 0 8, 1 8, 8.
        t.asks("hill 0 there", town, y -> y.words(0, 0, 1), 5);
        TwinFires far = Lands.chain(2);
        far.put(MIST, 11);
        t.asks("in mist nothing is lit", far, y -> y.words(0, 0, 6), 1);
    }

    private void termsOfViewsNo() {
        t.says(TERMS, "(NO: a SET is not LAWFUL.)");
        TwinFires x = Lands.chain(5);
        t.no("words", x, y -> y.words(1, 0, 0));
        t.no("words", x, y -> y.words(7, 0, 6));
        t.no("reach", x, y -> y.reach(1, 0));
        t.no("reach", x, y -> y.reach(31, 99));
        t.refuses("row", x, y -> y.row(2, 3, NONE), -20, NO);
        t.refuses("row", x, y -> y.row(3, 2, 0), -20, NO);
        x.put(MIST, 19);
        t.no("in mist", x, y -> y.words(3, 0, 0));
        t.no("in mist", x, y -> y.reach(3, 0));
        t.refuses("in mist", x, y -> y.row(3, 3, NONE), -20, NO);
        t.asks("above the mist", x, y -> y.reach(24, 0), 1);
    }

    private void termsOfMists() {
        t.says(TERMS, "BY MISTS: a SET is from hour 0 on;");
        TwinFires x = Lands.chain(5);
        isRowByMists(x, 3);
        isRowByMists(x, 27);
        isRowByMists(new TwinFires(), 0);
        t.says(TERMS, "each hour behind that (to 11)");
        TwinFires late = Lands.chain(5);
        for (int hour = 0; hour < 11; hour++) {
            late.mist(hour, 99);
        }
        isRowByMists(late, 0, 0, 0, 0, 0, 0, 0, 0, 0, 0, 0, 3);
        t.asks("there is no hour 12", late, y -> y.byMists(0, 27, NONE), -6);
        late.mist(10, 0);
        isRowByMists(late, 0, 0, 0, 0, 0, 0, 0, 0, 0, 0, 3, 27);
        late.mist(10, 99);
        late.mist(11, 99);
        t.asks("nor an hour 12", late, y -> y.byMists(0, 3, NONE), -6);
        isRowByMists(late, 0);
    }

    private void termsOfMistsChanges() {
        t.says(TERMS, "one or two HILLS change, or none;");
        TwinFires x = Lands.chain(5);
        isRowByMists(x, 3, 6);
        isRowByMists(x, 0, 3, 27);
        isRowByMists(x, 6, 3, 27);
        x.mist(1, 11);
        // In hour 1 hill 0 is in the mist, in hour 2 it may be lit.
        isRowByMists(x, 0, 0, 3);
        isRowByMists(x, 24, 24, 27);
        t.says(TERMS, "by the MIST of each hour the SET is LAWFUL:");
        isRowByMists(x, 3, 0, 3, 27);
        x.put(MIST, 99);
        isRowByMists(x, 0, 0, 3);
        x.mist(2, 30);
        // In hour 2 hill 4 stands above it alone.
        isRowByMists(x, 3, 0, 0, 24);
        isRowByMists(x, 24, 0, 0, 3);
        isRowByMists(x, 3, 0, 0, 3, 27);
        x.mist(1, 0);
        x.mist(2, 0);
        x.put(MIST, 0);
        x.mist(3, 99);
        isRowByMists(x, 3, 0, 24);
        isRowByMists(x, 0, 3);
    }

    private void termsOfMistsFirst() {
        t.says(TERMS, "the first hour in which it is another SET;");
        TwinFires x = Lands.chain(5);
        isRowByMists(x, 3, 0, 24);
        for (int hour = 1; hour <= 4; hour++) {
            x.mist(hour, 30);
        }
        isRowByMists(x, 3, 0, 0, 0, 0, 24);
        isRowByMists(x, 24, 0, 0, 0, 0, 3);
        t.asks("one that never is LAWFUL", x, y -> y.byMists(3, 1, NONE), -6);
        t.asks("two pairs can't go out in an hour", x, y -> y.byMists(27, 24, NONE), -6);
        t.asks("two pairs are there in hour 0", x, y -> y.byMists(27, 27, NONE), 0);
        t.says(TERMS, "of like rows the first (NO:");
        TwinFires like = Lands.chain(5);
        // By 0 or by 27.
        isRowByMists(like, 3, 0, 24);
        // By 24, though 3 is less: that one leads on by 0 and is later.
        isRowByMists(like, 27, 24, 12);
        TwinFires six = Lands.chain(6);
        isRowByMists(six, 12, 0, 3, 51);
        // In hour 1 hill 0 is in the mist, in hour 2 hill 1, too.
        six.mist(1, 11);
        six.mist(2, 19);
        isRowByMists(six, 6, 0, 0, 3);
    }

    private void termsOfMistsNo() {
        t.says(TERMS, "it is not LAWFUL in hour 0).");
        TwinFires x = Lands.chain(5);
        t.refuses("one alone", x, y -> y.byMists(1, 3, NONE), -20, NO);
        t.refuses("one alone to itself", x, y -> y.byMists(1, 1, 0), -20, NO);
        x.mist(0, 10);
        t.asks("as high as the mist", x, y -> y.byMists(3, 3, NONE), 0);
        x.mist(0, 11);
        t.refuses("in the mist of hour 0", x, y -> y.byMists(3, 3, NONE), -20, NO);
        t.asks("above the mist", x, y -> y.byMists(6, 6, NONE), 0);
        x.mist(0, 0);
        x.mist(1, 99);
        x.put(MIST, 99);
        t.asks("by the mist of hour 0 alone", x, y -> y.byMists(3, 3, NONE), 0);
    }

    private void termsOfWord() {
        t.says(TERMS, "THE WORD: up to 8 LETTERS");
        TwinFires x = new TwinFires();
        for (int i = 1; i <= 8; i++) {
            t.takes("letter " + i, x, y -> y.letter(1), i);
        }
        t.full("letter 9", x, y -> y.letter(1));
        t.due("eight", x.count(4), 8);
        t.says(TERMS, "(0 .. 9).");
        TwinFires y0 = new TwinFires();
        t.takes("least", y0, y -> y.letter(0), 1);
        t.takes("greatest", y0, y -> y.letter(9), 2);
        for (int v : Sentences.outside(0, 9)) {
            t.bad("letter " + v, y0, y -> y.letter(v));
        }
    }

    private static TwinFires told(TwinFires x, int... letters) {
        x.unword();
        for (int letter : letters) {
            x.letter(letter);
        }
        return x;
    }

    private void termsOfTold() {
        t.says(TERMS, "TOLD from a SET: hour by hour (as in VIEWS) a TOWN counts fires (as there);");
        TwinFires x = Lands.town();
        // The town sees all pairs, hill 0 itself, its twin and the town.
        t.asks("2 in an hour", told(x, 2), y -> y.toldIn(0, 8), 1);
        t.asks("4 in two hours", told(x, 4), y -> y.toldIn(0, 8), 2);
        t.asks("8 in four hours", told(x, 8), y -> y.toldIn(0, 8), 4);
        t.asks("4 is never seen from hill 0", told(x, 4), y -> y.toldIn(0, 0), NONE);
        t.asks("its own is counted, too", told(x, 2), y -> y.toldIn(0, 0), 1);
        t.asks("the town alone", told(x, 1), y -> y.toldIn(0, 0), 1);
        t.asks("the town never counts one", told(x, 1), y -> y.toldIn(0, 8), NONE);
        t.asks("from eight to none in four hours", told(x, 0), y -> y.toldIn(255, 8), 4);
    }

    private void termsOfToldOneByOne() {
        t.says(TERMS, "LETTERS are read one behind the other,");
        TwinFires x = Lands.town();
        t.asks("2 4", told(x, 2, 4), y -> y.toldIn(0, 8), 2);
        t.asks("4 2", told(x, 4, 2), y -> y.toldIn(0, 8), 3);
        t.asks("8 0", told(x, 8, 0), y -> y.toldIn(0, 8), 8);
        t.asks("0 8", told(x, 0, 8), y -> y.toldIn(0, 8), 4);
        t.asks("0 2 4 6 8 6 4 2", told(x, 0, 2, 4, 6, 8, 6, 4, 2), y -> y.toldIn(0, 8), 7);
        t.asks("8 0 8 0 8 0 8 0", told(x, 8, 0, 8, 0, 8, 0, 8, 0), y -> y.toldIn(0, 8), 32);
        t.says(TERMS, "one in an hour at most,");
        t.asks("2 2", told(x, 2, 2), y -> y.toldIn(0, 8), 2);
        t.asks("0 0", told(x, 0, 0), y -> y.toldIn(0, 8), 1);
        t.asks("0 eight times", told(x, 0, 0, 0, 0, 0, 0, 0, 0), y -> y.toldIn(0, 8), 7);
        t.says(TERMS, "as soon as the count is the LETTER (hour 0, the SET itself, too):");
        t.asks("0 in hour 0", told(x, 0), y -> y.toldIn(0, 8), 0);
        t.asks("8 in hour 0", told(x, 8), y -> y.toldIn(255, 8), 0);
        t.asks("8 6 in hour 1", told(x, 8, 6), y -> y.toldIn(255, 8), 1);
        t.asks("6 8 from all", told(x, 6, 8), y -> y.toldIn(255, 8), 2);
    }

    private void termsOfToldHours() {
        t.says(TERMS, "the fewest hours till all are read;");
        TwinFires x = Lands.town();
        t.asks("no letters", told(x), y -> y.toldIn(0, 8), 0);
        t.asks("no letters, from afar", told(x), y -> y.toldIn(255, 0), 0);
        t.asks("2 0 from all: by 3 hours to 2", told(x, 2, 0), y -> y.toldIn(255, 8), 4);
        t.says(TERMS, "are read; none.");
        for (int letter : new int[] {1, 3, 5, 7, 9}) {
            t.asks("never " + letter, told(x, letter), y -> y.toldIn(0, 8), NONE);
            t.asks("never " + letter + ", the last one", told(x, 0, 2, letter), y -> y.toldIn(0, 8), NONE);
            t.asks("never " + letter + ", the first one", told(x, letter, 0), y -> y.toldIn(0, 8), NONE);
        }
        TwinFires none = new TwinFires();
        none.hill(1, 1, 1);
        t.asks("one hill: never 1", told(none, 1), y -> y.toldIn(0, 0), NONE);
        t.asks("one hill: 0", told(none, 0), y -> y.toldIn(0, 0), 0);
    }

    private void row() {
        t.says(23, "ROW: hours (i = NONE), the i-th SET (0: the first one).");
        TwinFires x = Lands.chain(5);
        t.asks("hours", x, y -> y.row(3, 24, NONE), 2);
        t.asks("the first one", x, y -> y.row(3, 24, 0), 3);
        t.asks("the last one", x, y -> y.row(3, 24, 2), 24);
        t.asks("no hours", x, y -> y.row(3, 3, NONE), 0);
        t.asks("the first one", x, y -> y.row(3, 3, 0), 3);
        t.says(23, "-5: it has not so many.");
        for (int i : new int[] {3, 4, 11, 12, 99, 100, 1024, BIG}) {
            t.asks("i " + i, x, y -> y.row(3, 24, i), -5);
        }
        t.asks("one behind", x, y -> y.row(3, 3, 1), -5);
        t.asks("one behind", new TwinFires(), y -> y.row(0, 0, 1), -5);
        t.says(23, "-6: none leads there.");
        // Pairs may go out one by one, so that a row leads from each LAWFUL SET to each: -6 is never due.
        for (int set = 0; set < 512; set++) {
            TwinFires town = Lands.town();
            if (town.judge(set, 0) == NONE) {
                t.due("from " + set, town.row(set, 0, NONE), Integer.bitCount(set) / 2);
                t.due("to " + set, town.row(0, set, NONE), Integer.bitCount(set) / 2);
            }
        }
    }

    private void rowRefuses() {
        t.says(23, "BAD: -10;");
        TwinFires x = Lands.chain(5);
        for (int i : new int[] {-2, -3, -10, SMALL}) {
            t.refuses("i " + i, x, y -> y.row(3, 24, i), -10, BAD);
            t.refuses("ahead of NO, i " + i, x, y -> y.row(1, 24, i), -10, BAD);
        }
        for (int v : Sentences.outside(0, 31)) {
            t.refuses("from " + v, x, y -> y.row(v, 3, NONE), -10, BAD);
            t.refuses("to " + v, x, y -> y.row(3, v, NONE), -10, BAD);
            t.refuses("to " + v + ", ahead of NO", x, y -> y.row(1, v, 0), -10, BAD);
        }
        t.says(23, "NO: -20: one is not LAWFUL.");
        t.refuses("from", x, y -> y.row(1, 3, NONE), -20, NO);
        t.refuses("to", x, y -> y.row(3, 1, NONE), -20, NO);
        t.refuses("both", x, y -> y.row(31, 1, 0), -20, NO);
        t.refuses("ahead of -5", x, y -> y.row(1, 1, 9), -20, NO);
        x.put(MIST, 11);
        t.refuses("in mist", x, y -> y.row(0, 3, NONE), -20, NO);
    }

    private void reach() {
        t.says(24, "REACH (n 0 .. 99).");
        TwinFires x = Lands.chain(5);
        t.asks("n 0", x, y -> y.reach(27, 0), 1);
        t.asks("n 1", x, y -> y.reach(27, 1), 3);
        t.asks("n 99", x, y -> y.reach(27, 99), 6);
        t.says(24, "BAD;");
        for (int v : Sentences.outside(0, 99)) {
            t.bad("n " + v, x, y -> y.reach(27, v));
            t.bad("ahead of NO, n " + v, x, y -> y.reach(1, v));
        }
        for (int v : Sentences.outside(0, 31)) {
            t.bad("from " + v, x, y -> y.reach(v, 1));
        }
        t.says(24, "NO: not LAWFUL.");
        t.no("one alone", x, y -> y.reach(16, 0));
        t.no("all", x, y -> y.reach(31, 99));
    }

    private void words() {
        t.says(25, "VIEWS.");
        TwinFires x = Lands.chain(5);
        t.asks("as it is", x, y -> y.words(27, 4, 0), 1);
        // Hill 4 sees 3 and 4: none, 3 (of 2 3), 3 4.
        t.asks("two hours", x, y -> y.words(27, 4, 2), 3);
        t.says(25, "BAD;");
        for (int v : Sentences.outside(0, 4)) {
            t.bad("town " + v, x, y -> y.words(27, v, 0));
            t.bad("ahead of NO, town " + v, x, y -> y.words(1, v, 0));
        }
        for (int v : Sentences.outside(0, 6)) {
            t.bad("n " + v, x, y -> y.words(27, 4, v));
            t.bad("ahead of NO, n " + v, x, y -> y.words(1, 4, v));
        }
        for (int v : Sentences.outside(0, 31)) {
            t.bad("from " + v, x, y -> y.words(v, 4, 0));
        }
        t.bad("no town", new TwinFires(), y -> y.words(0, 0, 0));
        t.says(25, "NO: not LAWFUL.");
        t.no("one alone", x, y -> y.words(16, 0, 0));
        t.no("all", x, y -> y.words(31, 4, 6));
    }

    private void byMists() {
        t.says(26, "BY MISTS: the hour (i = NONE), the SET in hour i.");
        TwinFires x = Lands.chain(5);
        t.asks("the hour", x, y -> y.byMists(3, 24, NONE), 2);
        t.asks("hour 0", x, y -> y.byMists(3, 24, 0), 3);
        t.asks("hour 1", x, y -> y.byMists(3, 24, 1), 0);
        t.asks("hour 2", x, y -> y.byMists(3, 24, 2), 24);
        for (int hour = 1; hour < 11; hour++) {
            x.mist(hour, 99);
        }
        t.asks("the last hour", x, y -> y.byMists(3, 24, NONE), 11);
        t.asks("hour 10", x, y -> y.byMists(3, 24, 10), 0);
        t.asks("hour 11", x, y -> y.byMists(3, 24, 11), 24);
        t.says(26, "-5: it is there ahead of that.");
        TwinFires y0 = Lands.chain(5);
        for (int i = 3; i < 12; i++) {
            int hour = i;
            t.asks("hour " + hour, y0, y -> y.byMists(3, 24, hour), -5);
        }
        t.asks("there in hour 0", y0, y -> y.byMists(3, 3, 1), -5);
        t.says(26, "-6: none leads there.");
        t.asks("never LAWFUL", y0, y -> y.byMists(3, 7, NONE), -6);
        t.asks("never LAWFUL, hour 0", y0, y -> y.byMists(3, 7, 0), -6);
        t.asks("never LAWFUL, hour 11", y0, y -> y.byMists(3, 7, 11), -6);
        t.asks("too late", x, y -> y.byMists(3, 27, NONE), -6);
    }

    private void byMistsRefuses() {
        t.says(26, "BAD: -10;");
        TwinFires x = Lands.chain(5);
        for (int i : new int[] {-2, -3, -10, SMALL, 12, 99, BIG}) {
            t.refuses("i " + i, x, y -> y.byMists(3, 24, i), -10, BAD);
            t.refuses("ahead of NO, i " + i, x, y -> y.byMists(1, 24, i), -10, BAD);
        }
        for (int v : Sentences.outside(0, 31)) {
            t.refuses("from " + v, x, y -> y.byMists(v, 3, NONE), -10, BAD);
            t.refuses("to " + v, x, y -> y.byMists(3, v, NONE), -10, BAD);
            t.refuses("to " + v + ", ahead of NO", x, y -> y.byMists(1, v, 0), -10, BAD);
        }
        t.says(26, "NO: -20.");
        t.refuses("not LAWFUL in hour 0", x, y -> y.byMists(1, 3, NONE), -20, NO);
        t.refuses("ahead of -5", x, y -> y.byMists(1, 1, 11), -20, NO);
        t.refuses("ahead of -6", x, y -> y.byMists(1, 7, NONE), -20, NO);
    }

    private void letter() {
        t.says(27, "A LETTER behind THE WORD: how many.");
        TwinFires x = Lands.town();
        t.takes("first", x, y -> y.letter(8), 1);
        t.takes("second", x, y -> y.letter(2), 2);
        t.asks("8, then 2", x, y -> y.toldIn(0, 8), 7);
        t.says(27, "BAD;");
        for (int v : Sentences.outside(0, 9)) {
            t.bad("letter " + v, x, y -> y.letter(v));
        }
        t.says(27, "FULL: 8.");
        for (int i = 3; i <= 8; i++) {
            t.takes("letter " + i, x, y -> y.letter(0), i);
        }
        t.full("a ninth", x, y -> y.letter(0));
        for (int v : Sentences.outside(0, 9)) {
            t.bad("ahead of FULL, letter " + v, x, y -> y.letter(v));
        }
    }

    private void unword() {
        t.says(28, "THE WORD is empty: how many it had.");
        TwinFires x = Lands.town();
        t.asks("it had none", x, y -> y.unword(), 0);
        x.letter(9);
        t.takes("it had one", x, y -> y.unword(), 1);
        t.due("empty", x.count(4), 0);
        t.asks("no letter is left to read", x, y -> y.toldIn(0, 8), 0);
        for (int i = 0; i < 8; i++) {
            x.letter(9);
        }
        t.takes("it was full", x, y -> y.unword(), 8);
        t.asks("it had none", x, y -> y.unword(), 0);
        t.takes("the first again", x, y -> y.letter(2), 1);
        t.asks("no old letter behind it", x, y -> y.toldIn(0, 8), 1);
    }

    private void toldIn() {
        t.says(29, "TOLD: hours.");
        TwinFires x = told(Lands.chain(5), 2);
        t.asks("none", x, y -> y.toldIn(3, 0), 0);
        t.asks("one", x, y -> y.toldIn(24, 0), 1);
        t.says(29, "NONE.");
        t.asks("three are never seen", told(x, 3), y -> y.toldIn(3, 0), NONE);
        t.says(29, "BAD: -10;");
        for (int v : Sentences.outside(0, 4)) {
            t.refuses("town " + v, x, y -> y.toldIn(3, v), -10, BAD);
            t.refuses("ahead of NO, town " + v, x, y -> y.toldIn(1, v), -10, BAD);
        }
        for (int v : Sentences.outside(0, 31)) {
            t.refuses("from " + v, x, y -> y.toldIn(v, 0), -10, BAD);
        }
        t.refuses("no town", new TwinFires(), y -> y.toldIn(0, 0), -10, BAD);
        t.says(29, "NO: -20.");
        t.refuses("one alone", x, y -> y.toldIn(1, 0), -20, NO);
        t.refuses("one alone, no letters", told(x), y -> y.toldIn(1, 0), -20, NO);
        x.put(MIST, 11);
        t.refuses("in mist", x, y -> y.toldIn(3, 0), -20, NO);
        TwinFires hidden = Lands.two();
        hidden.thing(STONE, 2, 0, 99, 0);
        t.refuses("hidden", hidden, y -> y.toldIn(3, 0), -20, NO);
    }
}
