/** Keepers and nights: their terms, and promises 30 to 36. */
final class KeeperSentences {
    private static final int TERMS = Sentences.TERMS;
    private static final int NONE = TwinFires.NONE, BAD = TwinFires.BAD;
    private static final int MIST = Lands.MIST, TRUTH = Lands.TRUTH, STONE = Lands.STONE;
    private final Sentences t;

    KeeperSentences(Sentences t) {
        this.t = t;
    }

    void all() {
        termsOfReports();
        termsOfWithout();
        termsOfBlames();
        termsOfChance();
        termsOfTruth();
        termsOfLies();
        termsOfLiesNo();
        termsOfNight();
        termsOfNightHours();
        report();
        blame();
        without();
        chance();
        chanceRefuses();
        lies();
        tell();
        night();
        nightRefuses();
    }

    private void fraction(String what, TwinFires x, long above, long below) {
        t.asks(what + ", above", x, y -> y.part(0), above);
        t.asks(what + ", below", x, y -> y.part(1), below);
    }

    private void termsOfReports() {
        t.says(TERMS, "======== 3 REPORTS: what the keeper of a HILL saw: so many other fires (0 .. 9),");
        TwinFires x = Lands.chain(10);
        for (int i = 0; i < 10; i++) {
            int hill = i;
            t.takes("least, hill " + i, x, y -> y.report(hill, 0), NONE);
            t.takes("greatest, hill " + i, x, y -> y.report(hill, 9), 0);
            t.takes("each for itself, hill " + i, x, y -> y.report(hill, hill), 9);
        }
        for (int i = 0; i < 10; i++) {
            t.due("hill " + i, x.report(i, i), i);
        }
        for (int v : new int[] {-2, 10, Sentences.BIG, Sentences.SMALL}) {
            t.refuses("so many as " + v, x, y -> y.report(0, v), -10, BAD);
        }
        t.says(TERMS, "or none was told (at first).");
        TwinFires none = Lands.chain(10);
        for (int i = 0; i < 10; i++) {
            int hill = i;
            t.asks("none, hill " + i, none, y -> y.report(hill, NONE), NONE);
        }
        t.due("no reports", none.count(3), 0);
        none.report(4, 0);
        t.due("none seen is a report", none.count(3), 1);
        t.takes("none told again", none, y -> y.report(4, NONE), 0);
        t.due("no reports", none.count(3), 0);
    }

    private void termsOfWithout() {
        t.says(TERMS, "WITHOUT leave: by a LAWFUL SET that was told, HILLS, one of which may have been lit besides: none "
                + "of it,");
        TwinFires x = Lands.chain(10);
        t.asks("none lit: each", x, y -> y.without(0), 1023);
        t.asks("a pair: all others", x, y -> y.without(768), 255);
        t.asks("three pairs: all others", x, y -> y.without(219), 1023 & ~219);
        t.asks("all are lit", Lands.twins(), y -> y.without(1023), 0);
        t.asks("no hills", new TwinFires(), y -> y.without(0), 0);
        t.no("not LAWFUL", x, y -> y.without(1));
        t.says(TERMS, "and each REPORT of a HILL (lit or not) is how many of the SET and it were in its SIGHT");
        x.report(1, 1);
        // Hill 1 is lit and sees 0; with 2 it would see two.
        t.asks("a lit keeper", x, y -> y.without(3), 1023 & ~7);
        x.report(1, 2);
        t.asks("a lit keeper saw two", x, y -> y.without(3), 4);
        x.report(1, NONE);
        x.report(5, 1);
        t.asks("a dark keeper saw one", x, y -> y.without(3), 16 | 64);
        x.report(5, 0);
        t.asks("a dark keeper saw none", x, y -> y.without(3), 1023 & ~(3 | 16 | 64));
        x.report(5, 2);
        t.asks("two at once are not lit", x, y -> y.without(3), 0);
        x.report(5, 9);
        t.asks("nine", x, y -> y.without(3), 0);
        x.report(5, 1);
        x.report(7, 1);
        t.asks("two reports", x, y -> y.without(3), 64);
        x.report(0, 0);
        t.asks("one report is wrong for all", x, y -> y.without(3), 0);
        t.says(TERMS, "(but itself).");
        TwinFires own = Lands.chain(3);
        own.report(2, 0);
        // With 1 lit it would see one; if it lit itself, it sees none.
        t.asks("its own fire is not seen", own, y -> y.without(0), 1 | 4);
        own.report(2, 1);
        t.asks("its own fire is not seen", own, y -> y.without(0), 2);
    }

    private void termsOfBlames() {
        t.says(TERMS, "BLAMES (0 .. 9; 1 at first):");
        TwinFires x = Lands.chain(10);
        for (int i = 0; i < 10; i++) {
            int hill = i;
            t.takes("at first, hill " + i, x, y -> y.blame(hill, 9), 1);
            t.takes("greatest, hill " + i, x, y -> y.blame(hill, 0), 9);
            t.takes("least, hill " + i, x, y -> y.blame(hill, hill), 0);
        }
        for (int i = 0; i < 10; i++) {
            t.due("each for itself, hill " + i, x.blame(i, i), i);
        }
        for (int v : Sentences.outside(0, 9)) {
            t.bad("BLAME " + v, x, y -> y.blame(0, v));
        }
    }

    private void termsOfChance() {
        t.says(TERMS, "the chance of one of these: its BLAME by that of all of these");
        TwinFires x = Lands.chain(10);
        t.takes("ten alike", x, y -> y.chance(0, 9), 1);
        fraction("ten alike", x, 1, 10);
        for (int i = 0; i < 10; i++) {
            x.blame(i, 9);
        }
        t.takes("ten alike", x, y -> y.chance(0, 0), 1);
        fraction("ten alike", x, 1, 10);
        x.blame(9, 0);
        t.takes("nine alike", x, y -> y.chance(0, 0), 1);
        fraction("nine alike", x, 1, 9);
        t.takes("no blame", x, y -> y.chance(0, 9), 1);
        fraction("no blame", x, 0, 1);
        x.report(5, 1);
        // 4 and 6 alone may have been lit.
        x.blame(4, 8);
        x.blame(6, 4);
        t.takes("of these alone", x, y -> y.chance(3, 4), 1);
        fraction("of these alone", x, 2, 3);
        t.takes("of these alone", x, y -> y.chance(3, 6), 1);
        fraction("of these alone", x, 1, 3);
        x.blame(6, 0);
        t.takes("the only one", x, y -> y.chance(3, 4), 1);
        fraction("the only one", x, 1, 1);
        t.says(TERMS, "(NO: all are 0, there is none).");
        x.blame(4, 0);
        t.no("all are 0", x, y -> y.chance(3, 4));
        fraction("as it was", x, 1, 1);
        x.report(5, 9);
        x.blame(4, 9);
        t.no("there is none", x, y -> y.chance(3, 4));
        t.no("there is none: all are lit", Lands.twins(), y -> y.chance(1023, 0));
        TwinFires others = Lands.chain(5);
        others.blame(2, 0);
        others.blame(3, 0);
        others.blame(4, 0);
        t.no("blame of the SET is none", others, y -> y.chance(3, 2));
    }

    private void termsOfTruth() {
        t.says(TERMS, "LIES: keepers tell the truth TRUTH of 10 (1 .. 10; 9 at first), each for itself:");
        TwinFires x = Lands.chain(3);
        // With 0 lit keeper 1 sees one, with 1 none, with 2 one.
        x.report(1, 1);
        t.takes("TRUTH 9", x, y -> y.lies(0, 0), 1);
        fraction("9 of 9, 1, 9", x, 9, 19);
        t.takes("TRUTH 9", x, y -> y.lies(0, 1), 1);
        fraction("1 of 9, 1, 9", x, 1, 19);
        x.put(TRUTH, 10);
        t.takes("TRUTH 10", x, y -> y.lies(0, 0), 1);
        fraction("10 of 10, 0, 10", x, 1, 2);
        t.takes("TRUTH 10", x, y -> y.lies(0, 1), 1);
        fraction("0 of 10, 0, 10", x, 0, 1);
        x.put(TRUTH, 1);
        t.takes("TRUTH 1", x, y -> y.lies(0, 0), 1);
        fraction("1 of 1, 9, 1", x, 1, 11);
        x.put(TRUTH, 5);
        t.takes("TRUTH 5", x, y -> y.lies(0, 0), 1);
        fraction("alike", x, 1, 3);
        for (int v : Sentences.outside(1, 10)) {
            t.bad("TRUTH " + v, x, y -> y.put(TRUTH, v));
        }
        x.put(TRUTH, 9);
        // Keeper 2 sees one if 1 is lit: 9 by 1, 1 by 9, 9 by 1.
        x.report(2, 1);
        t.takes("two reports", x, y -> y.lies(0, 0), 1);
        fraction("all are 9", x, 1, 3);
        x.report(2, 0);
        t.takes("two reports", x, y -> y.lies(0, 1), 1);
        fraction("1 of 81, 1, 81", x, 1, 163);
    }

    private void termsOfLies() {
        t.says(TERMS, "of all HILLS but those of the SET BLAME times, for each REPORT, TRUTH, if it is so, 10 less TRUTH, "
                + "if not: the chance of one by all");
        TwinFires x = Lands.chain(5);
        t.takes("no reports", x, y -> y.lies(3, 4), 1);
        fraction("three alike", x, 1, 3);
        x.blame(0, 9);
        x.blame(1, 9);
        t.takes("those of the SET are none", x, y -> y.lies(3, 4), 1);
        fraction("three alike", x, 1, 3);
        x.blame(2, 0);
        x.blame(3, 2);
        x.blame(4, 9);
        t.takes("by blame", x, y -> y.lies(3, 3), 1);
        fraction("2 of 0, 2, 9", x, 2, 11);
        t.takes("no blame", x, y -> y.lies(3, 2), 1);
        fraction("0 of 11", x, 0, 1);
        TwinFires great = Lands.chain(10);
        for (int i = 0; i < 10; i++) {
            great.report(i, 9);
            great.blame(i, 9);
        }
        great.put(TRUTH, 1);
        // None of them can see nine, so each is 9 times 9 to the tenth.
        t.takes("the greatest numbers", great, y -> y.lies(0, 0), 1);
        fraction("ten alike", great, 1, 10);
        great.blame(0, 8);
        t.takes("the greatest numbers", great, y -> y.lies(0, 0), 1);
        fraction("8 of 89", great, 8, 89);
        TwinFires dark = Lands.chain(10);
        for (int i = 0; i < 10; i++) {
            dark.report(i, i == 1 ? 1 : 0);
        }
        // Hill 0: all ten are so; hill 2: keeper 3 is not; hill 1: keepers 0, 1, 2; hill 9: keepers 1, 8.
        t.takes("no small numbers are lost", dark, y -> y.lies(0, 0), 1);
        // In 9ths of lies: 0, 3, 1, then 3 each for 3 .. 8 (keeper 1 and both neighbours), 2 for 9.
        // 9^3, 1, 9^2, six times 1, 9 of 729 + 1 + 81 + 6 + 9 = 826.
        fraction("729 of 826", dark, 729, 826);
        t.takes("hill 9", dark, y -> y.lies(0, 9), 1);
        fraction("9 of 826", dark, 9, 826);
        t.takes("hill 1", dark, y -> y.lies(0, 1), 1);
        fraction("1 of 826", dark, 1, 826);
    }

    private void termsOfLiesNo() {
        t.says(TERMS, "(NO: all are 0).");
        TwinFires x = Lands.chain(5);
        x.put(TRUTH, 10);
        x.report(0, 9);
        t.no("no one tells so", x, y -> y.lies(3, 4));
        x.put(TRUTH, 9);
        t.takes("they may lie", x, y -> y.lies(3, 4), 1);
        for (int i = 2; i < 5; i++) {
            x.blame(i, 0);
        }
        t.no("no blame", x, y -> y.lies(3, 4));
        fraction("as it was", x, 1, 3);
    }

    private void termsOfNight() {
        t.says(TERMS, "THE NIGHT: hour by hour (0 .. 11) a HILL is lit or put out (or nothing is told, at first;");
        TwinFires x = Lands.chain(5);
        t.asks("nothing is told: no hour", x, y -> y.night(3, 0), NONE);
        t.asks("nothing is told: all hours", x, y -> y.night(3, 1), 12);
        t.asks("nothing is told: as it was", x, y -> y.night(3, 2), 3);
        for (int i = 0; i < 12; i++) {
            int hour = i;
            TwinFires one = Lands.chain(5);
            t.takes("told, hour " + hour, one, y -> y.tell(hour, 4, 1), 1);
            t.asks("the first hour, hour " + hour, one, y -> y.night(3, 0), hour);
            t.asks("how many, hour " + hour, one, y -> y.night(3, 1), hour);
            t.asks("at the end, hour " + hour, one, y -> y.night(3, 2), 19);
            t.takes("nothing is told, hour " + hour, one, y -> y.tell(hour, NONE, 0), 1);
            t.asks("all hours again, hour " + hour, one, y -> y.night(3, 1), 12);
        }
        for (int v : Sentences.outside(0, 11)) {
            t.bad("hour " + v, x, y -> y.tell(v, 4, 1));
        }
        t.says(TERMS, "a HILL that is not there: nothing),");
        x.tell(0, 4, 1);
        x.tell(11, 2, 0);
        Lands.write(x, "hill 0 0 9; hill 1 0 9;");
        t.takes("a land of two hills", x, y -> y.land(), 2);
        t.asks("not there: no hour", x, y -> y.night(3, 0), NONE);
        t.asks("not there: as it was", x, y -> y.night(3, 2), 3);
        x.hill(2, 0, 9);
        t.no("there, and it is not lit", x, y -> y.night(3, 2));
        x.tell(11, 0, 0);
        t.asks("hill 4 is still not there", x, y -> y.night(3, 2), 2);
    }

    private void termsOfNightHours() {
        t.says(TERMS, "from a SET on, by the MIST of each hour: the first hour behind which the SET is not LAWFUL;");
        TwinFires x = Lands.chain(5);
        x.mist(11, 11);
        t.asks("in the mist of hour 11", x, y -> y.night(3, 0), 11);
        x.mist(0, 11);
        t.asks("in the mist of hour 0", x, y -> y.night(3, 0), 0);
        t.asks("above the mist", x, y -> y.night(24, 0), NONE);
        x.put(MIST, 99);
        t.asks("not by the MIST of the land", x, y -> y.night(24, 0), NONE);
        TwinFires behind = Lands.chain(5);
        behind.tell(0, 1, 1);
        t.asks("one alone, its twin in hour 0", behind, y -> y.night(1, 0), NONE);
        behind.tell(0, 2, 1);
        t.asks("a pair and a third in hour 0", behind, y -> y.night(3, 0), 0);
        t.says(TERMS, "LAWFUL; none; how many hours are.");
        t.asks("none is not", Lands.chain(5), y -> y.night(0, 0), NONE);
        t.asks("all are", Lands.chain(5), y -> y.night(0, 1), 12);
        t.asks("none is", Lands.chain(5), y -> y.night(1, 1), 0);
        behind.tell(0, NONE, 0);
        behind.tell(4, 2, 1);
        behind.tell(6, 0, 0);
        t.asks("hours 4 and 5 are not", behind, y -> y.night(3, 1), 10);
        t.asks("hour 4 is the first", behind, y -> y.night(3, 0), 4);
    }

    private void report() {
        t.says(30, "REPORT of a HILL (NONE: none): what it was.");
        TwinFires x = Lands.chain(2);
        t.takes("at first none", x, y -> y.report(1, 9), NONE);
        t.takes("then", x, y -> y.report(1, NONE), 9);
        t.takes("none", x, y -> y.report(1, 0), NONE);
        t.takes("zero", x, y -> y.report(1, 0), 0);
        t.says(30, "BAD: -10.");
        for (int v : new int[] {-2, -10, 10, Sentences.SMALL, Sentences.BIG}) {
            t.refuses("so many as " + v, x, y -> y.report(1, v), -10, BAD);
        }
        for (int v : Sentences.outside(0, 1)) {
            t.refuses("hill " + v, x, y -> y.report(v, 1), -10, BAD);
            t.refuses("hill " + v, x, y -> y.report(v, NONE), -10, BAD);
        }
        t.refuses("no hills", new TwinFires(), y -> y.report(0, 1), -10, BAD);
    }

    private void blame() {
        t.says(31, "BLAME of a HILL: what it was.");
        TwinFires x = Lands.chain(2);
        t.takes("at first", x, y -> y.blame(1, 9), 1);
        t.takes("then", x, y -> y.blame(1, 0), 9);
        t.takes("none", x, y -> y.blame(1, 1), 0);
        t.says(31, "BAD.");
        for (int v : Sentences.outside(0, 9)) {
            t.bad("BLAME " + v, x, y -> y.blame(1, v));
        }
        for (int v : Sentences.outside(0, 1)) {
            t.bad("hill " + v, x, y -> y.blame(v, 1));
        }
        t.bad("no hills", new TwinFires(), y -> y.blame(0, 1));
    }

    private void without() {
        t.says(32, "WITHOUT leave, as bits.");
        TwinFires x = Lands.chain(5);
        t.asks("all others", x, y -> y.without(3), 28);
        x.report(4, 1);
        t.asks("hill 3", x, y -> y.without(3), 8);
        t.says(32, "BAD;");
        for (int v : Sentences.outside(0, 31)) {
            t.bad("set " + v, x, y -> y.without(v));
        }
        t.says(32, "NO: the SET is not LAWFUL.");
        t.no("one alone", x, y -> y.without(16));
        t.no("three", x, y -> y.without(7));
        x.put(MIST, 11);
        t.no("in mist", x, y -> y.without(3));
    }

    private void chance() {
        t.says(33, "The chance of a HILL of these is THE FRACTION: 1.");
        TwinFires x = Lands.chain(5);
        x.blame(4, 4);
        t.takes("4 of 6", x, y -> y.chance(3, 4), 1);
        fraction("4 of 6", x, 2, 3);
        t.takes("1 of 6", x, y -> y.chance(3, 2), 1);
        fraction("1 of 6", x, 1, 6);
        t.takes("one of the SET is none of these", x, y -> y.chance(3, 0), 1);
        fraction("one of the SET", x, 0, 1);
        x.report(4, 0);
        x.chance(3, 4);
        t.takes("one that can't be is none of these", x, y -> y.chance(3, 3), 1);
        fraction("one that can't be", x, 0, 1);
    }

    private void chanceRefuses() {
        t.says(33, "BAD;");
        TwinFires x = Lands.chain(5);
        x.chance(3, 4);
        for (int v : Sentences.outside(0, 4)) {
            t.bad("hill " + v, x, y -> y.chance(3, v));
            t.bad("ahead of NO, hill " + v, x, y -> y.chance(1, v));
        }
        for (int v : Sentences.outside(0, 31)) {
            t.bad("set " + v, x, y -> y.chance(v, 4));
        }
        t.says(33, "NO.");
        t.no("not LAWFUL", x, y -> y.chance(1, 4));
        x.report(0, 9);
        t.no("there is none", x, y -> y.chance(3, 4));
        x.report(0, NONE);
        for (int i = 0; i < 5; i++) {
            x.blame(i, 0);
        }
        t.no("all are 0", x, y -> y.chance(3, 4));
        fraction("as it was", x, 1, 3);
    }

    private void lies() {
        t.says(34, "LIES: the chance of a HILL is THE FRACTION: 1.");
        TwinFires x = Lands.chain(5);
        x.blame(4, 4);
        t.takes("4 of 6", x, y -> y.lies(3, 4), 1);
        fraction("4 of 6", x, 2, 3);
        t.says(34, "BAD: it is one of the SET, too;");
        t.bad("one of the SET", x, y -> y.lies(3, 0));
        t.bad("one of the SET", x, y -> y.lies(3, 1));
        t.bad("one of the SET, ahead of NO", x, y -> y.lies(1, 0));
        for (int v : Sentences.outside(0, 4)) {
            t.bad("hill " + v, x, y -> y.lies(3, v));
            t.bad("ahead of NO, hill " + v, x, y -> y.lies(1, v));
        }
        // Shifted by 32 a bit would be there again.
        t.bad("hill 34", x, y -> y.lies(3, 34));
        for (int v : Sentences.outside(0, 31)) {
            t.bad("set " + v, x, y -> y.lies(v, 4));
        }
        t.says(34, "NO: not LAWFUL, all are 0.");
        t.no("not LAWFUL", x, y -> y.lies(1, 4));
        for (int i = 0; i < 5; i++) {
            x.blame(i, i < 2 ? 9 : 0);
        }
        t.no("all are 0", x, y -> y.lies(3, 4));
        fraction("as it was", x, 2, 3);
    }

    private void tell() {
        t.says(35, "THE NIGHT: in an hour a HILL is lit (how = 1), put out (0), or nothing is told (hill = NONE, how 0): 1.");
        TwinFires x = Lands.chain(5);
        t.takes("lit", x, y -> y.tell(0, 4, 1), 1);
        t.due("lit", x.night(3, 2), 19);
        t.takes("put out, over it", x, y -> y.tell(0, 1, 0), 1);
        t.due("put out", x.night(3, 2), 1);
        t.takes("nothing, over it", x, y -> y.tell(0, NONE, 0), 1);
        t.due("nothing", x.night(3, 2), 3);
        t.takes("the last hour", x, y -> y.tell(11, 0, 1), 1);
        t.takes("twice the same", x, y -> y.tell(11, 0, 1), 1);
        t.says(35, "BAD.");
        for (int v : Sentences.outside(0, 11)) {
            t.bad("hour " + v, x, y -> y.tell(v, 0, 1));
            t.bad("hour " + v, x, y -> y.tell(v, NONE, 0));
        }
        for (int v : new int[] {-2, 5, 9, Sentences.SMALL, Sentences.BIG}) {
            t.bad("hill " + v, x, y -> y.tell(0, v, 0));
            t.bad("hill " + v, x, y -> y.tell(0, v, 1));
        }
        for (int v : Sentences.outside(0, 1)) {
            t.bad("how " + v, x, y -> y.tell(0, 0, v));
            t.bad("nothing, how " + v, x, y -> y.tell(0, NONE, v));
        }
        t.bad("nothing, how 1", x, y -> y.tell(0, NONE, 1));
    }

    private void night() {
        t.says(36, "THE NIGHT from a SET: the first hour (0), how many are LAWFUL (1), the SET behind hour 11 (2).");
        TwinFires x = Lands.chain(5);
        x.tell(0, 0, 0);
        x.tell(1, 1, 0);
        x.tell(10, 3, 1);
        x.tell(11, 4, 1);
        t.asks("the first hour", x, y -> y.night(3, 0), 0);
        t.asks("how many", x, y -> y.night(3, 1), 10);
        t.asks("behind hour 11", x, y -> y.night(3, 2), 24);
        t.asks("a SET that is not LAWFUL", Lands.chain(5), y -> y.night(31, 2), 31);
        t.says(36, "NONE.");
        t.asks("each hour is LAWFUL", Lands.chain(5), y -> y.night(3, 0), NONE);
        t.asks("no hills", new TwinFires(), y -> y.night(0, 0), NONE);
    }

    private void nightRefuses() {
        t.says(36, "BAD;");
        TwinFires x = Lands.chain(5);
        x.tell(11, 1, 1);
        for (int v : Sentences.outside(0, 2)) {
            t.bad("what " + v, x, y -> y.night(1, v));
            t.bad("ahead of NO, what " + v, x, y -> y.night(2, v));
        }
        for (int v : Sentences.outside(0, 31)) {
            t.bad("set " + v, x, y -> y.night(v, 0));
        }
        t.says(36, "NO: one is lit that is, put out that is not.");
        for (int i = 0; i < 3; i++) {
            int what = i;
            t.no("lit that is, what " + what, x, y -> y.night(2, what));
        }
        x.tell(11, 1, 0);
        for (int i = 0; i < 3; i++) {
            int what = i;
            t.no("put out that is not, what " + what, x, y -> y.night(1, what));
        }
        x.tell(10, 1, 1);
        t.asks("lit an hour ahead", x, y -> y.night(1, 2), 1);
        t.no("lit an hour ahead, and it is", x, y -> y.night(3, 2));
        x.tell(9, 1, 0);
        t.asks("put out, lit, put out", x, y -> y.night(3, 2), 1);
        TwinFires stone = Lands.two();
        stone.thing(STONE, 2, 0, 99, 0);
        stone.tell(0, 0, 1);
        t.no("in no sight, too", stone, y -> y.night(1, 0));
    }
}
