/** Sets of fires: their terms, and promises 13 to 22. */
final class SetSentences {
    private static final int TERMS = Sentences.TERMS, BIG = Sentences.BIG, SMALL = Sentences.SMALL;
    private static final int NONE = TwinFires.NONE;
    private static final int STONE = Lands.STONE, WOOD = Lands.WOOD, PINE = Lands.PINE, HEDGE = Lands.HEDGE,
            TOPPED = Lands.TOPPED, WALL = Lands.WALL;
    private static final int YEAR = Lands.YEAR, MIST = Lands.MIST;
    private final Sentences t;

    SetSentences(Sentences t) {
        this.t = t;
    }

    void all() {
        termsOfSets();
        termsOfLawful();
        termsOfJudge();
        termsOfMost();
        termsOfYears();
        termsOfHours();
        termsOfWork();
        termsOfFewest();
        termsOfCheapest();
        termsOfCosts();
        termsOfTower();
        termsOfTowerHeights();
        sees();
        setsThatAreNone();
        judge();
        most();
        lawful();
        years();
        mist();
        hours();
        fewest();
        cheapest();
        tower();
    }

    private void termsOfSets() {
        t.says(TERMS, "======== 2 SETS are bits of HILLS on which fires are.");
        TwinFires none = new TwinFires();
        t.asks("no hills, no bits", none, y -> y.years(0), 1023);
        t.bad("no hills, bit 0", none, y -> y.years(1));
        TwinFires one = new TwinFires();
        one.hill(1, 1, 1);
        t.asks("one hill, bit 0", one, y -> y.years(1), 0);
        t.bad("one hill, bit 1", one, y -> y.years(2));
        TwinFires ten = Lands.twins();
        t.asks("ten hills, all bits", ten, y -> y.years(1023), 1023);
        t.asks("ten hills, the last two", ten, y -> y.years(768), 1023);
        t.bad("ten hills, bit 10", ten, y -> y.years(1024));
        t.bad("ten hills, bit 10 and one that is there", ten, y -> y.years(1025));
        t.bad("the last bit", ten, y -> y.years(SMALL));
        t.bad("all bits", ten, y -> y.years(-1));
        t.bad("all but the last bit", ten, y -> y.years(BIG));
    }

    private void termsOfLawful() {
        t.says(TERMS, "LAWFUL: from each HILL of it just one other of it is in SIGHT");
        TwinFires x = Lands.chain(10);
        t.asks("one alone sees none", x, y -> y.judge(1, 0), 0);
        t.asks("a pair", x, y -> y.judge(3, 0), NONE);
        t.asks("the last pair", x, y -> y.judge(768, 0), NONE);
        t.asks("three: the middle one sees two", x, y -> y.judge(7, 0), 1);
        t.asks("two apart see none", x, y -> y.judge(5, 0), 0);
        t.asks("a pair and one alone", x, y -> y.judge(3 | 512, 0), 9);
        t.asks("two pairs, a dark hill between", x, y -> y.judge(3 | 24, 0), NONE);
        t.asks("two pairs, no dark hill between", x, y -> y.judge(3 | 12, 0), 1);
        t.asks("a dark hill may see many", x, y -> y.judge(3 | 24, 0), NONE);
        TwinFires all = Lands.twins();
        t.asks("all ten", all, y -> y.judge(1023, 0), NONE);
        t.asks("nine", all, y -> y.judge(511, 0), 8);
        t.asks("nine", all, y -> y.judge(1022, 0), 1);
        t.says(TERMS, "(none lit: LAWFUL).");
        t.asks("none lit", x, y -> y.judge(0, 0), NONE);
        x.put(MIST, 99);
        t.asks("none lit, in mist", x, y -> y.judge(0, 0), NONE);
        t.asks("it is the only one", x, y -> y.lawful(NONE), 1);
        t.asks("no hills", new TwinFires(), y -> y.judge(0, 0), NONE);
    }

    private void termsOfJudge() {
        t.says(TERMS, "JUDGE: the least HILL of a SET from which none or more are.");
        TwinFires x = Lands.chain(10);
        t.asks("none: the least of all", x, y -> y.judge(1 | 4 | 16, 0), 0);
        t.asks("none: not hill 0", x, y -> y.judge(4 | 16, 0), 2);
        t.asks("more: not one of the two at the ends", x, y -> y.judge(7, 0), 1);
        t.asks("more ahead of none", x, y -> y.judge(7 | 512, 0), 1);
        t.asks("none ahead of more", x, y -> y.judge(1 | 28, 0), 0);
        t.asks("a dark hill is not judged", x, y -> y.judge(6 | 48, 0), NONE);
        t.asks("the greatest", x, y -> y.judge(512, 0), 9);
        t.asks("all: hill 0 sees one", x, y -> y.judge(1023, 0), 1);
    }

    private void termsOfMost() {
        t.says(TERMS, "MOST: of LAWFUL SETS (with a HILL, or any) that with the most fires, of like ones the least bits.");
        TwinFires x = Lands.chain(10);
        // Three pairs at most: 0 1, 3 4, 6 7.
        t.asks("fires", x, y -> y.most(NONE, 0), 6);
        t.asks("bits", x, y -> y.most(NONE, 1), 3 | 24 | 192);
        t.asks("with the last", x, y -> y.most(9, 1), 3 | 24 | 768);
        t.asks("with the last", x, y -> y.most(9, 0), 6);
        t.asks("with hill 0", x, y -> y.most(0, 1), 3 | 24 | 192);
        // Hill 2 is in 1 2 or 2 3: 1 2, 4 5, 7 8.
        t.asks("with hill 2", x, y -> y.most(2, 1), 6 | 48 | 384);
        // Hill 5 is in 4 5 or 5 6: 0 1, 4 5, 7 8.
        t.asks("with hill 5", x, y -> y.most(5, 1), 3 | 48 | 384);
        TwinFires town = Lands.town();
        t.asks("any", town, y -> y.most(NONE, 0), 8);
        t.asks("with the town fewer", town, y -> y.most(8, 0), 2);
        t.asks("with the town the least other", town, y -> y.most(8, 1), 257);
    }

    private void termsOfYears() {
        t.says(TERMS, "YEARS: bits k of 0 .. 9 so that in YEAR and k");
        TwinFires x = Lands.two();
        x.thing(WOOD, 2, 0, 1, 1);
        // 10 high in year 9, 11 in year 10.
        int[] years = {0, 1, 2, 5, 8, 9, 10, 99};
        int[] bits = {1023, 511, 255, 31, 3, 1, 0, 0};
        for (int i = 0; i < years.length; i++) {
            x.put(YEAR, years[i]);
            t.asks("year " + years[i], x, y -> y.years(3), bits[i]);
        }
        t.due("the year is as it was", x.put(YEAR, 0), 99);
        TwinFires late = Lands.two();
        late.hill(2, 0, 20);
        late.thing(PINE, 1, 0, 1, 2);
        // The pine is 13, no more than 15, in year 3, 17 in year 4.
        t.asks("years 0 to 3", late, y -> y.years(5), 15);
        late.put(YEAR, 4);
        t.asks("none", late, y -> y.years(5), 0);
        t.says(TERMS, "(99 at most) a SET is LAWFUL.");
        TwinFires hedge = Lands.two();
        hedge.thing(HEDGE, 2, 0, 10, 1);
        hedge.put(YEAR, 90);
        t.asks("90 and 95 are by 5", hedge, y -> y.years(3), 33);
        hedge.put(YEAR, 91);
        t.asks("91: 95, and no 100", hedge, y -> y.years(3), 16);
        hedge.put(YEAR, 95);
        t.asks("95, and no 100", hedge, y -> y.years(3), 1);
        hedge.put(YEAR, 99);
        t.asks("99: no 100", hedge, y -> y.years(3), 0);
        TwinFires still = Lands.two();
        still.put(YEAR, 99);
        t.asks("99 over and over", still, y -> y.years(3), 1023);
        t.asks("99 over and over, none lit", still, y -> y.years(0), 1023);
        still.put(YEAR, 95);
        t.asks("99 over and over", still, y -> y.years(3), 1023);
    }

    private void termsOfHours() {
        t.says(TERMS, "HOURS 0 .. 11 have a MIST of their own (0 .. 99; 0 at first):");
        TwinFires x = new TwinFires();
        for (int i = 0; i < 12; i++) {
            int hour = i;
            t.takes("at first " + hour, x, y -> y.mist(hour, 99), 0);
            t.takes("greatest " + hour, x, y -> y.mist(hour, 0), 99);
            t.takes("least " + hour, x, y -> y.mist(hour, hour), 0);
        }
        for (int i = 0; i < 12; i++) {
            int hour = i;
            t.takes("each for itself " + hour, x, y -> y.mist(hour, hour), hour);
        }
        t.due("no hour's", x.put(MIST, 0), 0);
        t.says(TERMS, "bits of those in which a SET is LAWFUL by that.");
        TwinFires two = Lands.two();
        t.asks("all", two, y -> y.hours(3), 4095);
        for (int hour = 0; hour < 12; hour++) {
            two.mist(hour, 10);
            t.asks("as high as the mist, hour " + hour, two, y -> y.hours(3), 4095);
            two.mist(hour, 11);
            t.asks("lower than the mist, hour " + hour, two, y -> y.hours(3), 4095 & ~(1 << hour));
            two.mist(hour, 0);
        }
        two.put(MIST, 99);
        t.asks("not by the MIST of the land", two, y -> y.hours(3), 4095);
        t.asks("one alone", two, y -> y.hours(1), 0);
        t.asks("none lit", two, y -> y.hours(0), 4095);
        two.hill(2, 0, 99);
        t.asks("hidden", two, y -> y.hours(3), 0);
        t.asks("the one between sees both", two, y -> y.hours(7), 0);
    }

    private void termsOfWork() {
        t.says(TERMS, "WORK: of all sets of THINGS that are WOODS, PINES, HEDGES, TOPPED and not FELLED, WALLS not "
                + "RAISED,");
        for (int kind = WOOD; kind <= TOPPED; kind++) {
            TwinFires x = Lands.two();
            x.thing(kind, 2, 0, 99, 0);
            t.asks("kind " + kind, x, y -> y.fewest(3, 1), 1);
            t.asks("kind " + kind + ", cheapest", x, y -> y.cheapest(3, 1), 1);
            x.work(0, true);
            t.asks("felled, kind " + kind, x, y -> y.fewest(3, 1), 0);
            t.asks("felled, kind " + kind, x, y -> y.cheapest(3, 1), 0);
        }
        TwinFires stone = Lands.two();
        stone.thing(STONE, 2, 0, 99, 0);
        t.asks("a stone", stone, y -> y.fewest(3, 1), NONE);
        t.asks("a stone", stone, y -> y.cheapest(3, 1), NONE);
        TwinFires raised = Lands.two();
        raised.thing(WALL, 2, 0, 99, 0);
        t.asks("a wall that is not in the way", raised, y -> y.fewest(3, 1), 0);
        raised.work(0, true);
        t.asks("a raised wall stays", raised, y -> y.fewest(3, 1), NONE);
        t.asks("a raised wall stays", raised, y -> y.cheapest(3, 1), NONE);
        TwinFires walls = line();
        t.asks("each sees each", walls, y -> y.judge(15, 1), 3);
        walls.thing(WALL, 2, 0, 99, 0);
        t.asks("a wall is raised", walls, y -> y.fewest(15, 1), 1);
        t.asks("a wall is raised", walls, y -> y.cheapest(15, 1), 1);
        TwinFires felled = line();
        felled.thing(WOOD, 2, 0, 99, 0);
        t.asks("a wood stands there", felled, y -> y.fewest(15, 1), 0);
        felled.work(0, true);
        t.asks("a felled wood does not come back", felled, y -> y.fewest(15, 1), NONE);
        TwinFires none = Lands.two();
        t.asks("no things", none, y -> y.fewest(3, 1), 0);
        t.asks("no things", none, y -> y.fewest(1, 1), NONE);
    }

    /** Four hills of 10 on a line at 0, 1, 3, 4: each sees each, till something stands at 2. */
    private static TwinFires line() {
        TwinFires x = new TwinFires();
        x.hill(0, 0, 10);
        x.hill(1, 0, 10);
        x.hill(3, 0, 10);
        x.hill(4, 0, 10);
        return x;
    }

    private void termsOfFewest() {
        t.says(TERMS, "the one with the fewest, by which, FELLED or RAISED, a SET is LAWFUL, of like ones the least bits.");
        TwinFires eight = new TwinFires();
        eight.hill(0, 0, 10);
        eight.hill(9, 0, 10);
        for (int i = 0; i < 8; i++) {
            eight.thing(WOOD, 1 + i, 0, 50, 0);
        }
        t.asks("all eight", eight, y -> y.fewest(3, 1), 255);
        t.asks("all eight", eight, y -> y.fewest(3, 0), 8);
        t.due("none was felled", eight.high(7), 50);
        TwinFires walls = line();
        for (int i = 0; i < 8; i++) {
            walls.thing(WALL, 2, 0, i < 3 ? 10 : 99, 0);
        }
        t.asks("the least of those that are high enough", walls, y -> y.fewest(15, 1), 8);
        walls.work(3, true);
        t.asks("it stands", walls, y -> y.fewest(15, 1), 0);
        TwinFires both = line();
        both.thing(WOOD, 0, 1, 50, 0);
        both.thing(HEDGE, 1, 1, 50, 0);
        both.thing(WALL, 2, 0, 11, 0);
        t.asks("others are no help", both, y -> y.fewest(15, 1), 4);
        // Hill 1 at 1 and hill 2 at 3: a wood at 2 must go and no wall may come.
        TwinFires fell = line();
        fell.thing(WALL, 2, 0, 50, 0);
        fell.thing(PINE, 2, 0, 50, 0);
        t.asks("just the pine", fell, y -> y.fewest(6, 1), 2);
        t.asks("one", fell, y -> y.fewest(6, 0), 1);
        t.asks("nothing: the pine stands there", fell, y -> y.fewest(15, 1), 0);
        // The wall of the first land is not in the second one's way.
        TwinFires anew = line();
        anew.thing(WALL, 2, 0, 50, 0);
        t.asks("a wall", anew, y -> y.fewest(15, 1), 1);
        Lands.write(anew, "hill 0 0 9;hill 1 0 9;hill 3 0 9;hill 4 0 9;wall 2 5 9;");
        anew.land();
        t.asks("a wall elsewhere", anew, y -> y.fewest(15, 1), NONE);
    }

    private void termsOfCheapest() {
        t.says(TERMS, "CHEAPEST: so with the least COSTS of these together");
        TwinFires x = Lands.square();
        x.thing(STONE, 0, 3, 50, 0);
        x.thing(STONE, 6, 3, 50, 0);
        // The middle hides both diagonals, the others one each.
        x.thing(WALL, 3, 3, 50, 0);
        x.thing(WALL, 2, 2, 50, 0);
        x.thing(WALL, 4, 2, 50, 0);
        x.cost(2, 99);
        x.cost(3, 50);
        x.cost(4, 48);
        t.asks("98 is less than 99", x, y -> y.cheapest(15, 0), 98);
        t.asks("98 is less than 99", x, y -> y.cheapest(15, 1), 24);
        x.cost(4, 49);
        t.asks("99 both: the least bits", x, y -> y.cheapest(15, 1), 4);
        x.cost(4, 50);
        t.asks("100 is more than 99", x, y -> y.cheapest(15, 1), 4);
        x.cost(3, 0);
        x.cost(4, 0);
        t.asks("two for nothing", x, y -> y.cheapest(15, 0), 0);
        t.asks("two for nothing", x, y -> y.cheapest(15, 1), 24);
        x.cost(2, 0);
        t.asks("all for nothing: the least bits", x, y -> y.cheapest(15, 1), 4);
        TwinFires free = Lands.two();
        free.thing(WALL, 9, 9, 9, 0);
        free.thing(WOOD, 2, 0, 99, 0);
        free.cost(0, 0);
        t.asks("one for nothing that is no help is left out", free, y -> y.cheapest(3, 1), 2);
    }

    private void termsOfCosts() {
        t.says(TERMS, "(each 0 .. 99; 1 at first).");
        TwinFires x = new TwinFires();
        x.hill(0, 0, 10);
        x.hill(9, 0, 10);
        for (int i = 0; i < 8; i++) {
            x.thing(WOOD, 1 + i, 0, 50, 0);
        }
        t.asks("1 each", x, y -> y.cheapest(3, 0), 8);
        for (int i = 0; i < 8; i++) {
            int thing = i;
            t.takes("greatest", x, y -> y.cost(thing, 99), 1);
        }
        t.asks("99 each", x, y -> y.cheapest(3, 0), 792);
        t.asks("all", x, y -> y.cheapest(3, 1), 255);
        for (int v : Sentences.outside(0, 99)) {
            t.bad("COST " + v, x, y -> y.cost(7, v));
        }
        for (int i = 0; i < 8; i++) {
            int thing = i;
            t.takes("least", x, y -> y.cost(thing, 0), 99);
        }
        t.asks("0 each", x, y -> y.cheapest(3, 0), 0);
        t.asks("all", x, y -> y.cheapest(3, 1), 255);
    }

    private void termsOfTower() {
        t.says(TERMS, "TOWER: the least HEIGHT of a HILL");
        TwinFires x = Lands.two();
        t.asks("nothing between", x, y -> y.tower(0), 0);
        x.thing(STONE, 2, 0, 50, 0);
        // Half of its height and 10 together is 50.
        t.asks("just as high as the line", x, y -> y.tower(0), 90);
        x.thing(STONE, 3, 0, 32, 0);
        t.asks("h and 30 is at least 128", x, y -> y.tower(0), 98);
        t.asks("from the other end 90 is more than 40", x, y -> y.tower(1), 90);
        x.put(MIST, 10);
        t.asks("mist below it", x, y -> y.tower(0), 98);
        TwinFires many = Lands.chain(4);
        // 10, 18, 24, 28 at 0, 2, 4, 6: over 18 to 24 it is 12, over 24 to 28 it is 16, over 18 to 28 it is 13.
        t.asks("over each other hill", many, y -> y.tower(0), 16);
        many.put(MIST, 17);
        t.asks("in the mist", many, y -> y.tower(0), 17);
        many.put(MIST, 19);
        t.asks("another one is in the mist", many, y -> y.tower(0), NONE);
        TwinFires first = new TwinFires();
        first.hill(2, 0, 50);
        first.hill(0, 0, 10);
        first.hill(4, 0, 10);
        t.asks("over the first hill", first, y -> y.tower(1), 90);
        t.asks("between the others", first, y -> y.tower(0), 0);
    }

    private void termsOfTowerHeights() {
        t.says(TERMS, "(0 .. 99, in place of its own) by which all other HILLS are in SIGHT of it;");
        TwinFires x = new TwinFires();
        x.hill(0, 0, 99);
        x.hill(4, 0, 99);
        t.asks("its own does not count", x, y -> y.tower(0), 0);
        x.thing(STONE, 2, 0, 99, 0);
        t.asks("99", x, y -> y.tower(0), 99);
        t.due("its own is as it was", x.sight(0, 1), 1);
        x.put(MIST, 99);
        t.asks("99 in mist", x, y -> y.tower(0), 99);
        TwinFires two = Lands.two();
        two.put(MIST, 10);
        t.asks("as high as the mist", two, y -> y.tower(0), 10);
        two.put(MIST, 9);
        t.asks("as high as the mist", two, y -> y.tower(1), 9);
        TwinFires low = new TwinFires();
        low.hill(0, 0, 0);
        low.hill(4, 0, 0);
        low.put(MIST, 0);
        t.asks("0", low, y -> y.tower(0), 0);
        low.thing(STONE, 0, 0, 99, 0);
        low.thing(STONE, 4, 0, 99, 0);
        t.asks("what stands on a hill is not between", low, y -> y.tower(0), 0);
        TwinFires one = new TwinFires();
        one.hill(3, 3, 50);
        t.asks("no other hill", one, y -> y.tower(0), 0);
        one.put(MIST, 99);
        t.asks("no other hill, in mist", one, y -> y.tower(0), 0);
        t.says(TERMS, "it; none.");
        TwinFires none = Lands.two();
        none.thing(STONE, 2, 0, 54, 0);
        t.asks("98 and 10 is 54 twice", none, y -> y.tower(0), 98);
        none.thing(WOOD, 2, 0, 54, 1);
        none.put(YEAR, 1);
        t.asks("100 would be needed", none, y -> y.tower(0), NONE);
        none.put(YEAR, 0);
        none.put(MIST, 11);
        t.asks("the other one is in the mist", none, y -> y.tower(0), NONE);
    }

    private void sees() {
        t.says(13, "Other HILLS of a SET in SIGHT of a HILL, as bits.");
        TwinFires x = Lands.chain(10);
        t.asks("hill 0, all", x, y -> y.sees(0, 1023), 2);
        t.asks("hill 9, all", x, y -> y.sees(9, 1023), 256);
        t.asks("hill 4, all", x, y -> y.sees(4, 1023), 40);
        t.asks("hill 4, none lit", x, y -> y.sees(4, 0), 0);
        t.asks("hill 4, itself alone", x, y -> y.sees(4, 16), 0);
        t.asks("hill 4, one of two", x, y -> y.sees(4, 32), 32);
        t.asks("hill 4, not of the set, sees", x, y -> y.sees(4, 1023 & ~16), 40);
        TwinFires square = Lands.square();
        for (int i = 0; i < 4; i++) {
            int hill = i;
            t.asks("but itself " + i, square, y -> y.sees(hill, 15), 15 & ~(1 << i));
        }
        square.put(MIST, 11);
        t.asks("in mist", square, y -> y.sees(0, 15), 0);
    }

    /** Every call that takes a SET, with one that has bits which are not there. */
    private void badSet(TwinFires x, int set) {
        t.bad("sees " + set, x, y -> y.sees(0, set));
        t.bad("judge " + set, x, y -> y.judge(set, 0));
        t.bad("years " + set, x, y -> y.years(set));
        t.bad("hours " + set, x, y -> y.hours(set));
        t.bad("fewest " + set, x, y -> y.fewest(set, 0));
        t.bad("cheapest " + set, x, y -> y.cheapest(set, 0));
        t.bad("reach " + set, x, y -> y.reach(set, 0));
        t.bad("words " + set, x, y -> y.words(set, 0, 0));
        t.bad("without " + set, x, y -> y.without(set));
        t.bad("chance " + set, x, y -> y.chance(set, 0));
        t.bad("lies " + set, x, y -> y.lies(set, 0));
        t.bad("night " + set, x, y -> y.night(set, 0));
        t.refuses("row from " + set, x, y -> y.row(set, 0, NONE), -10, TwinFires.BAD);
        t.refuses("row to " + set, x, y -> y.row(0, set, NONE), -10, TwinFires.BAD);
        t.refuses("byMists from " + set, x, y -> y.byMists(set, 0, NONE), -10, TwinFires.BAD);
        t.refuses("byMists to " + set, x, y -> y.byMists(0, set, NONE), -10, TwinFires.BAD);
        t.refuses("toldIn from " + set, x, y -> y.toldIn(set, 0), -10, TwinFires.BAD);
    }

    private void setsThatAreNone() {
        t.says(13, "BAD: bits of HILLS that are not there, too (likewise below).");
        for (int set : new int[] {16, 19, 32, 512, 1023, 1024, 1 << 30, BIG, -1, SMALL, SMALL | 3}) {
            badSet(Lands.square(), set);
        }
        for (int set : new int[] {1024, 1027, BIG, -1, SMALL, SMALL | 3}) {
            badSet(Lands.chain(10), set);
        }
        badSet(new TwinFires(), 1);
        TwinFires x = Lands.square();
        for (int v : Sentences.outside(0, 3)) {
            t.bad("hill " + v, x, y -> y.sees(v, 3));
        }
        t.bad("no hills", new TwinFires(), y -> y.sees(0, 0));
    }

    private void judge() {
        t.says(14, "JUDGE: the HILL (0), how many are in its SIGHT (1).");
        TwinFires x = Lands.chain(10);
        t.asks("none", x, y -> y.judge(512, 0), 9);
        t.asks("none", x, y -> y.judge(512, 1), 0);
        t.asks("two", x, y -> y.judge(1023, 0), 1);
        t.asks("two", x, y -> y.judge(1023, 1), 2);
        TwinFires nine = Lands.town();
        t.asks("hill 1 sees the town, hill 2 its twin, too", nine, y -> y.judge(511 & ~1, 0), 2);
        t.asks("of the set alone", nine, y -> y.judge(2 | 256 | 8, 0), 8);
        t.asks("of the set alone", nine, y -> y.judge(2 | 256 | 8, 1), 2);
        t.asks("hill 0 sees its twin and the town", nine, y -> y.judge(511, 1), 2);
        t.asks("one of each pair: the town sees four", nine, y -> y.judge(1 | 4 | 16 | 64 | 256, 0), 8);
        t.asks("one of each pair: the town sees four", nine, y -> y.judge(1 | 4 | 16 | 64 | 256, 1), 4);
        TwinFires square = Lands.square();
        t.asks("three", square, y -> y.judge(15, 1), 3);
        t.says(14, "NONE: LAWFUL.");
        t.asks("none lit", x, y -> y.judge(0, 0), NONE);
        t.asks("none lit", x, y -> y.judge(0, 1), NONE);
        t.asks("a pair", x, y -> y.judge(768, 0), NONE);
        t.asks("a pair", x, y -> y.judge(768, 1), NONE);
        t.says(14, "BAD.");
        for (int v : Sentences.outside(0, 1)) {
            t.bad("what " + v, x, y -> y.judge(768, v));
            t.bad("what " + v, x, y -> y.judge(1, v));
        }
    }

    private void most() {
        t.says(15, "MOST, with a HILL (NONE: any): how many fires (0), bits (1).");
        TwinFires x = Lands.twins();
        t.asks("all ten", x, y -> y.most(NONE, 0), 10);
        t.asks("all ten", x, y -> y.most(NONE, 1), 1023);
        t.asks("all ten with the last", x, y -> y.most(9, 1), 1023);
        TwinFires none = new TwinFires();
        t.asks("no hills: none lit", none, y -> y.most(NONE, 0), 0);
        t.asks("no hills: none lit", none, y -> y.most(NONE, 1), 0);
        none.hill(1, 1, 1);
        t.asks("one hill: none lit", none, y -> y.most(NONE, 0), 0);
        t.says(15, "BAD;");
        for (int v : new int[] {-2, 10, SMALL, BIG}) {
            t.bad("hill " + v, x, y -> y.most(v, 0));
        }
        for (int v : Sentences.outside(0, 1)) {
            t.bad("what " + v, x, y -> y.most(0, v));
            t.bad("what " + v, x, y -> y.most(NONE, v));
            t.bad("ahead of NO", none, y -> y.most(0, v));
        }
        t.bad("no hill 1", none, y -> y.most(1, 0));
        t.says(15, "NO: there is no such SET.");
        t.no("one hill", none, y -> y.most(0, 0));
        t.no("one hill", none, y -> y.most(0, 1));
        TwinFires mist = Lands.chain(3);
        mist.put(MIST, 11);
        t.no("a hill in the mist", mist, y -> y.most(0, 1));
        t.asks("the others", mist, y -> y.most(1, 1), 6);
        t.asks("any", mist, y -> y.most(NONE, 1), 6);
    }

    private void lawful() {
        t.says(16, "How many LAWFUL SETS of n fires there are (NONE: of any).");
        TwinFires x = Lands.chain(10);
        int[] due = {1, 0, 9, 0, 21, 0, 10, 0, 0, 0, 0};
        for (int i = 0; i <= 10; i++) {
            int n = i;
            t.asks(n + " fires", x, y -> y.lawful(n), due[n]);
        }
        t.asks("any", x, y -> y.lawful(NONE), 41);
        TwinFires twins = Lands.twins();
        t.asks("all ten", twins, y -> y.lawful(10), 1);
        t.asks("eight", twins, y -> y.lawful(8), 5);
        t.asks("any", twins, y -> y.lawful(NONE), 32);
        TwinFires none = new TwinFires();
        t.asks("no hills", none, y -> y.lawful(0), 1);
        t.asks("no hills", none, y -> y.lawful(NONE), 1);
        t.asks("more fires than hills", none, y -> y.lawful(10), 0);
        t.says(16, "BAD.");
        for (int v : new int[] {-2, 11, SMALL, BIG}) {
            t.bad("n " + v, x, y -> y.lawful(v));
        }
    }

    private void years() {
        t.says(17, "YEARS, as bits.");
        TwinFires x = Lands.two();
        t.asks("all ten", x, y -> y.years(3), 1023);
        x.thing(HEDGE, 2, 0, 10, 9);
        t.asks("0 and 5", x, y -> y.years(3), 33);
        x.put(YEAR, 1);
        t.asks("5 and 10", x, y -> y.years(3), 16 | 512);
        x.put(MIST, 11);
        t.asks("in mist", x, y -> y.years(3), 0);
        t.says(17, "BAD.");
        for (int v : Sentences.outside(0, 3)) {
            t.bad("set " + v, x, y -> y.years(v));
        }
    }

    private void mist() {
        t.says(18, "MIST of an hour: what it was.");
        TwinFires x = new TwinFires();
        t.takes("hour 0", x, y -> y.mist(0, 99), 0);
        t.takes("hour 0", x, y -> y.mist(0, 1), 99);
        t.takes("hour 11", x, y -> y.mist(11, 7), 0);
        t.takes("hour 11", x, y -> y.mist(11, 7), 7);
        t.says(18, "BAD.");
        for (int v : Sentences.outside(0, 11)) {
            t.bad("hour " + v, x, y -> y.mist(v, 1));
        }
        for (int v : Sentences.outside(0, 99)) {
            t.bad("MIST " + v, x, y -> y.mist(0, v));
            t.bad("both " + v, x, y -> y.mist(v == 100 ? 12 : v, v));
        }
    }

    private void hours() {
        t.says(19, "HOURS, as bits.");
        TwinFires x = Lands.two();
        x.mist(0, 50);
        t.asks("not hour 0", x, y -> y.hours(3), 4094);
        x.mist(11, 50);
        t.asks("nor hour 11", x, y -> y.hours(3), 2046);
        t.says(19, "BAD.");
        for (int v : Sentences.outside(0, 3)) {
            t.bad("set " + v, x, y -> y.hours(v));
        }
    }

    private void fewest() {
        t.says(20, "WORK: how many (0), bits (1).");
        TwinFires x = Lands.two();
        x.thing(STONE, 9, 9, 9, 0);
        x.thing(WOOD, 1, 0, 50, 0);
        x.thing(TOPPED, 3, 0, 50, 0);
        t.asks("how many", x, y -> y.fewest(3, 0), 2);
        t.asks("bits", x, y -> y.fewest(3, 1), 6);
        t.asks("none lit: nothing", x, y -> y.fewest(0, 0), 0);
        t.asks("none lit: nothing", x, y -> y.fewest(0, 1), 0);
        t.says(20, "NONE: no such one.");
        t.asks("one alone", x, y -> y.fewest(1, 0), NONE);
        t.asks("one alone", x, y -> y.fewest(1, 1), NONE);
        x.put(MIST, 11);
        t.asks("in mist", x, y -> y.fewest(3, 0), NONE);
        t.says(20, "BAD.");
        for (int v : Sentences.outside(0, 1)) {
            t.bad("what " + v, x, y -> y.fewest(3, v));
        }
        for (int v : Sentences.outside(0, 3)) {
            t.bad("set " + v, x, y -> y.fewest(v, 1));
        }
    }

    private void cheapest() {
        t.says(21, "CHEAPEST: COSTS (0), bits (1).");
        TwinFires x = Lands.two();
        x.thing(WOOD, 1, 0, 50, 0);
        x.thing(TOPPED, 3, 0, 50, 0);
        x.cost(0, 99);
        x.cost(1, 98);
        t.asks("costs", x, y -> y.cheapest(3, 0), 197);
        t.asks("bits", x, y -> y.cheapest(3, 1), 3);
        t.asks("none lit: nothing", x, y -> y.cheapest(0, 0), 0);
        t.asks("none lit: nothing", x, y -> y.cheapest(0, 1), 0);
        t.says(21, "NONE: no such one.");
        t.asks("one alone", x, y -> y.cheapest(2, 0), NONE);
        t.asks("one alone", x, y -> y.cheapest(2, 1), NONE);
        x.put(MIST, 11);
        t.asks("in mist", x, y -> y.cheapest(3, 0), NONE);
        t.says(21, "BAD.");
        for (int v : Sentences.outside(0, 1)) {
            t.bad("what " + v, x, y -> y.cheapest(3, v));
        }
        for (int v : Sentences.outside(0, 3)) {
            t.bad("set " + v, x, y -> y.cheapest(v, 1));
        }
    }

    private void tower() {
        t.says(22, "TOWER.");
        TwinFires x = Lands.two();
        x.thing(WALL, 2, 0, 50, 0);
        t.asks("not raised", x, y -> y.tower(1), 0);
        x.work(0, true);
        t.asks("raised", x, y -> y.tower(1), 90);
        t.says(22, "NONE.");
        x.thing(STONE, 2, 0, 99, 0);
        t.asks("178 is too high", x, y -> y.tower(1), NONE);
        t.says(22, "BAD.");
        for (int v : Sentences.outside(0, 1)) {
            t.bad("hill " + v, x, y -> y.tower(v));
        }
        t.bad("no hills", new TwinFires(), y -> y.tower(0));
    }
}
