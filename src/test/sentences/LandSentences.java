/** A land: the first part of the terms, and promises 1 to 11. */
final class LandSentences {
    private static final int TERMS = Sentences.TERMS, BIG = Sentences.BIG, SMALL = Sentences.SMALL;
    private static final int STONE = Lands.STONE, WOOD = Lands.WOOD, PINE = Lands.PINE, HEDGE = Lands.HEDGE,
            TOPPED = Lands.TOPPED, WALL = Lands.WALL;
    private static final int YEAR = Lands.YEAR, MIST = Lands.MIST, WIDE = Lands.WIDE, TRUTH = Lands.TRUTH;
    private final Sentences t;

    LandSentences(Sentences t) {
        this.t = t;
    }

    void all() {
        termsOfHills();
        termsOfThings();
        termsOfHeights();
        termsOfPine();
        termsOfToppedAndWall();
        termsOfDials();
        termsOfMist();
        termsOfHidingForEachCall();
        termsOfAlong();
        termsOfWide();
        termsOfWideTheOtherWay();
        termsOfTheLine();
        termsOfBothEnds();
        termsOfNothingHigh();
        newObject();
        hill();
        thing();
        put();
        work();
        cost();
        high();
        sight();
        clear();
        clearRefuses();
        type();
        typeFull();
        clearText();
    }

    private void termsOfHills() {
        t.says(TERMS, "9, as they come, stand at X, Y");
        TwinFires x = new TwinFires();
        for (int i = 0; i < 10; i++) {
            int at = i;
            t.takes("hill " + i, x, y -> y.hill(at, 3, 5), i);
        }
        t.full("hill 10", x, y -> y.hill(10, 3, 5));
        t.says(TERMS, "(0 .. 19 each;");
        TwinFires place = new TwinFires();
        t.takes("least", place, y -> y.hill(0, 0, 1), 0);
        t.takes("greatest", place, y -> y.hill(19, 19, 1), 1);
        t.takes("corner", place, y -> y.hill(0, 19, 1), 2);
        t.takes("corner", place, y -> y.hill(19, 0, 1), 3);
        for (int v : Sentences.outside(0, 19)) {
            t.bad("X " + v, place, y -> y.hill(v, 1, 1));
            t.bad("Y " + v, place, y -> y.hill(1, v, 1));
        }
        t.says(TERMS, "no two in one place)");
        TwinFires one = new TwinFires();
        t.takes("the first", one, y -> y.hill(5, 6, 1), 0);
        t.bad("there, too", one, y -> y.hill(5, 6, 2));
        t.takes("the same X", one, y -> y.hill(5, 5, 1), 1);
        t.takes("the same Y", one, y -> y.hill(6, 6, 1), 2);
        t.takes("X and Y changed", one, y -> y.hill(6, 5, 1), 3);
        t.bad("there, too", one, y -> y.hill(6, 5, 1));
        t.says(TERMS, ", HEIGHT 0 .. 99.");
        TwinFires high = new TwinFires();
        t.takes("least", high, y -> y.hill(1, 0, 0), 0);
        t.takes("greatest", high, y -> y.hill(1, 1, 99), 1);
        for (int v : Sentences.outside(0, 99)) {
            t.bad("HEIGHT " + v, high, y -> y.hill(1, 2, v));
        }
    }

    private void termsOfThings() {
        t.says(TERMS, "THINGS 0 .. 7, as they come,");
        TwinFires x = new TwinFires();
        for (int i = 0; i < 8; i++) {
            t.takes("thing " + i, x, y -> y.thing(WOOD, 3, 3, 5, 1), i);
        }
        t.full("thing 8", x, y -> y.thing(WOOD, 3, 3, 5, 1));
        t.says(TERMS, "of KINDS, each under the one told,");
        TwinFires kinds = new TwinFires();
        for (int i = 0; i < 6; i++) {
            int kind = i;
            t.takes("KIND " + i, kinds, y -> y.thing(kind, 1, 1, 1, 0), i);
        }
        for (int v : Sentences.outside(0, 5)) {
            t.bad("KIND " + v, kinds, y -> y.thing(v, 1, 1, 1, 0));
        }
        t.says(TERMS, "at X, Y (any),");
        TwinFires any = new TwinFires();
        any.hill(3, 4, 5);
        t.takes("on a hill", any, y -> y.thing(STONE, 3, 4, 5, 0), 0);
        t.takes("on a thing", any, y -> y.thing(WALL, 3, 4, 5, 0), 1);
        t.takes("least", any, y -> y.thing(WOOD, 0, 0, 5, 0), 2);
        t.takes("greatest", any, y -> y.thing(WOOD, 19, 19, 5, 0), 3);
        for (int v : Sentences.outside(0, 19)) {
            t.bad("X " + v, any, y -> y.thing(WOOD, v, 1, 1, 0));
            t.bad("Y " + v, any, y -> y.thing(WOOD, 1, v, 1, 0));
        }
        t.takes("a hill on a thing", any, y -> y.hill(19, 19, 5), 1);
        t.says(TERMS, "HEIGHT h (0 .. 99),");
        TwinFires h = new TwinFires();
        t.takes("least", h, y -> y.thing(STONE, 1, 1, 0, 0), 0);
        t.takes("greatest", h, y -> y.thing(STONE, 1, 1, 99, 0), 1);
        for (int v : Sentences.outside(0, 99)) {
            t.bad("h " + v, h, y -> y.thing(STONE, 1, 1, v, 0));
        }
        t.says(TERMS, "GROWS g (0 .. 9),");
        TwinFires g = new TwinFires();
        int number = 0;
        for (int kind = WOOD; kind <= TOPPED; kind++) {
            int k = kind;
            t.takes("least of " + k, g, y -> y.thing(k, 1, 1, 1, 0), number);
            t.takes("greatest of " + k, g, y -> y.thing(k, 1, 1, 1, 9), number + 1);
            number += 2;
            for (int v : Sentences.outside(0, 9)) {
                t.bad("g " + v + " of " + k, g, y -> y.thing(k, 1, 1, 1, v));
            }
        }
    }

    /** How high a thing stands in some years, told in pairs of the year and the height. */
    private void heights(String what, int kind, int h, int g, int... yearsAndHeights) {
        TwinFires x = new TwinFires();
        x.thing(kind, 1, 1, h, g);
        for (int i = 0; i < yearsAndHeights.length; i += 2) {
            int year = yearsAndHeights[i];
            x.put(YEAR, year);
            t.asks(what + " of " + h + " and " + g + " in year " + year, x, y -> y.high(0), yearsAndHeights[i + 1]);
        }
    }

    private void termsOfHeights() {
        t.says(TERMS, "stand so high: 0 STONE: h.");
        heights("stone", STONE, 0, 0, 0, 0, 99, 0);
        heights("stone", STONE, 57, 0, 0, 57, 1, 57, 99, 57);
        heights("stone", STONE, 99, 0, 0, 99, 99, 99);
        t.says(TERMS, "1 WOOD (under STONE): that and g times YEAR,");
        heights("wood", WOOD, 0, 9, 0, 0, 1, 9, 10, 90, 11, 99);
        heights("wood", WOOD, 7, 1, 0, 7, 4, 11, 5, 12, 92, 99);
        heights("wood", WOOD, 7, 0, 0, 7, 99, 7);
        t.says(TERMS, "99 at most;");
        heights("wood", WOOD, 89, 9, 1, 98, 2, 99);
        heights("wood", WOOD, 90, 9, 1, 99);
        heights("wood", WOOD, 91, 9, 1, 99);
        heights("wood", WOOD, 99, 9, 0, 99, 99, 99);
        heights("pine", PINE, 81, 9, 1, 99);
        heights("pine", PINE, 82, 9, 1, 99, 99, 99);
        heights("hedge", HEDGE, 63, 9, 4, 99);
        heights("hedge", HEDGE, 64, 9, 4, 99, 5, 64);
        t.says(TERMS, "FELLED: 0.");
        TwinFires x = new TwinFires();
        for (int kind = WOOD; kind <= TOPPED; kind++) {
            x.thing(kind, 1, 1, 99, 9);
        }
        x.put(YEAR, 99);
        for (int i = 0; i < 4; i++) {
            int thing = i;
            x.work(thing, true);
            t.asks("felled, kind " + (i + 1), x, y -> y.high(thing), 0);
            x.work(thing, false);
            t.asks("not felled, kind " + (i + 1), x, y -> y.high(thing), i == 3 ? 49 : 99);
        }
    }

    private void termsOfPine() {
        t.says(TERMS, "2 PINE (under WOOD): as WOOD by twice g.");
        heights("pine", PINE, 1, 9, 0, 1, 1, 19, 5, 91, 6, 99, 99, 99);
        heights("pine", PINE, 3, 1, 0, 3, 1, 5, 48, 99, 49, 99);
        heights("pine", PINE, 3, 0, 99, 3);
        t.says(TERMS, "3 HEDGE (under WOOD): as WOOD by what is left over of YEAR by 5.");
        heights("hedge", HEDGE, 2, 9, 0, 2, 1, 11, 4, 38, 5, 2, 6, 11, 9, 38, 10, 2, 95, 2, 98, 29, 99, 38);
        heights("hedge", HEDGE, 2, 0, 4, 2);
    }

    private void termsOfToppedAndWall() {
        t.says(TERMS, "4 TOPPED (under PINE): half of what PINE says, cut.");
        heights("topped", TOPPED, 0, 0, 0, 0, 99, 0);
        heights("topped", TOPPED, 1, 0, 0, 0, 99, 0);
        heights("topped", TOPPED, 2, 0, 0, 1);
        heights("topped", TOPPED, 3, 1, 0, 1, 1, 2, 2, 3);
        heights("topped", TOPPED, 98, 0, 0, 49);
        heights("topped", TOPPED, 99, 0, 0, 49);
        heights("topped: pine is 99 at most ahead of that", TOPPED, 98, 9, 1, 49, 99, 49);
        t.says(TERMS, "5 WALL (under STONE): not RAISED (at first): 0.");
        for (int h : new int[] {0, 1, 99}) {
            TwinFires x = new TwinFires();
            x.thing(WALL, 1, 1, h, 0);
            t.asks("at first", x, y -> y.high(0), 0);
            x.work(0, true);
            t.asks("raised", x, y -> y.high(0), h);
            x.put(YEAR, 99);
            t.asks("raised, in a late year", x, y -> y.high(0), h);
            x.work(0, false);
            t.asks("no more raised", x, y -> y.high(0), 0);
        }
    }

    private void dial(int what, int first, int least, int greatest) {
        TwinFires x = new TwinFires();
        t.takes("at first", x, y -> y.put(what, least), first);
        t.takes("least", x, y -> y.put(what, greatest), least);
        for (int v : Sentences.outside(least, greatest)) {
            t.bad("number " + v, x, y -> y.put(what, v));
        }
        t.takes("greatest", x, y -> y.put(what, first), greatest);
        t.takes("then", x, y -> y.put(what, first), first);
    }

    private void termsOfDials() {
        t.says(TERMS, "YEAR (0 .. 99; 0 at first),");
        dial(YEAR, 0, 0, 99);
        t.says(TERMS, "MIST (0 .. 99; 0),");
        dial(MIST, 0, 0, 99);
        t.says(TERMS, "WIDE (0 .. 3; 0),");
        dial(WIDE, 0, 0, 3);
        t.says(TERMS, "TRUTH.");
        dial(TRUTH, 9, 1, 10);
    }

    private void termsOfMist() {
        t.says(TERMS, "SIGHT of two HILLS a, b: neither is lower than MIST,");
        TwinFires x = new TwinFires();
        x.hill(0, 0, 5);
        x.hill(4, 0, 99);
        x.hill(0, 4, 5);
        int[] mists = {0, 4, 5, 6, 99};
        int[] sight = {1, 1, 1, 0, 0};
        for (int i = 0; i < mists.length; i++) {
            x.put(MIST, mists[i]);
            t.asks("the first is low, mist " + mists[i], x, y -> y.sight(0, 1), sight[i]);
            t.asks("the second is low, mist " + mists[i], x, y -> y.sight(1, 2), sight[i]);
            t.asks("both are low, mist " + mists[i], x, y -> y.sight(0, 2), sight[i]);
        }
        TwinFires tall = new TwinFires();
        tall.hill(0, 0, 99);
        tall.hill(4, 0, 99);
        tall.put(MIST, 99);
        t.asks("99 is not lower than 99", tall, y -> y.sight(0, 1), 1);
        t.says(TERMS, "and nothing hides them.");
        TwinFires things = Lands.two();
        t.asks("nothing between", things, y -> y.sight(0, 1), 1);
        things.thing(STONE, 1, 0, 10, 0);
        t.asks("one that does not hide", things, y -> y.sight(0, 1), 1);
        for (int i = 1; i < 7; i++) {
            things.thing(STONE, 1, 5, 99, 0);
        }
        t.asks("seven that do not hide", things, y -> y.sight(0, 1), 1);
        things.thing(STONE, 3, 0, 11, 0);
        t.asks("the last one hides", things, y -> y.sight(0, 1), 0);
        TwinFires hills = new TwinFires();
        hills.hill(0, 0, 10);
        hills.hill(18, 0, 10);
        for (int i = 2; i < 9; i++) {
            hills.hill(i, 9, 99);
        }
        t.asks("seven hills that do not hide", hills, y -> y.sight(0, 1), 1);
        hills.hill(9, 0, 11);
        t.asks("the last hill hides", hills, y -> y.sight(0, 1), 0);
        TwinFires first = new TwinFires();
        first.hill(2, 0, 11);
        first.hill(0, 0, 10);
        first.hill(4, 0, 10);
        t.asks("the first hill hides", first, y -> y.sight(1, 2), 0);
    }

    /** Two hills with one thing between, that hides them or does not, looked at by each call on a new object. */
    private void looks(int kind, boolean isDone, boolean isSeen) {
        int one = isSeen ? 1 : 0;
        Sentences.Call[] calls = {y -> y.sight(0, 1), y -> y.sees(1, 3), y -> y.judge(3, 0), y -> y.most(0, 0),
            y -> y.lawful(2), y -> y.years(3), y -> y.hours(3), y -> y.fewest(3, 0), y -> y.cheapest(3, 0), y -> y.tower(0),
            y -> y.row(0, 3, -1), y -> y.reach(0, 1), y -> y.words(0, 0, 1), y -> y.byMists(0, 3, -1), y -> y.toldIn(0, 0),
            y -> y.without(3), y -> y.chance(3, 0), y -> y.lies(3, 0), y -> y.night(3, 1)};
        int[] seen = {1, 1, -1, 2, 1, 1023, 4095, 0, 0, 0, 1, 2, 2, 1, 1, 0, -3, -2, 12};
        int felled = kind == WALL ? -1 : 1;
        int[] hidden = {0, 0, 0, -3, 0, 0, 0, felled, felled, 90, -20, 1, 1, -6, -1, -3, -3, -2, 0};
        for (int i = 0; i < calls.length; i++) {
            TwinFires x = Lands.two();
            x.thing(kind, 2, 0, kind == TOPPED ? 99 : 50, 0);
            x.work(0, isDone);
            x.letter(2);
            t.due("call " + i + ", kind " + kind + ", " + isDone, calls[i].on(x), isSeen ? seen[i] : i == 9 && kind == TOPPED
                    ? 88 : hidden[i]);
        }
        TwinFires x = Lands.two();
        x.thing(kind, 2, 0, 50, 0);
        x.work(0, isDone);
        x.report(0, 1);
        t.asks("who was seen, kind " + kind, x, y -> y.without(0), 2 * one);
        TwinFires liar = Lands.two();
        liar.thing(kind, 2, 0, 50, 0);
        liar.work(0, isDone);
        liar.report(0, 1);
        liar.lies(0, 1);
        // Seen: 1 for hill 0 and 9 for hill 1; not seen: 1 each.
        t.due("lies, kind " + kind, liar.part(1), isSeen ? 10 : 2);
    }

    private void termsOfHidingForEachCall() {
        t.says(TERMS, "and nothing hides them.");
        for (int kind = WOOD; kind <= TOPPED; kind++) {
            looks(kind, false, false);
            looks(kind, true, true);
        }
        looks(WALL, false, true);
        looks(WALL, true, false);
        // Two pairs that hills hide from each other, each call the first of its object.
        t.due("judge", Lands.chain(5).judge(27, 0), -1);
        t.due("years", Lands.chain(5).years(27), 1023);
        t.due("hours", Lands.chain(5).hours(27), 4095);
        t.due("fewest", Lands.chain(5).fewest(27, 0), 0);
        t.due("cheapest", Lands.chain(5).cheapest(27, 0), 0);
        t.due("row", Lands.chain(5).row(27, 27, -1), 0);
        t.due("reach", Lands.chain(5).reach(27, 0), 1);
        t.due("words", Lands.chain(5).words(27, 0, 0), 1);
        t.due("byMists", Lands.chain(5).byMists(27, 27, -1), 0);
        t.due("toldIn", Lands.chain(5).toldIn(27, 0), 0);
        t.due("without", Lands.chain(5).without(27), 4);
        t.due("chance", Lands.chain(5).chance(27, 2), 1);
        t.due("lies", Lands.chain(5).lies(27, 2), 1);
        t.due("night", Lands.chain(5).night(27, 1), 12);
    }

    /** Whether a thing of 99 hides two hills of 10, told first one way, then the other; alike for a hill. */
    private void hides(String what, int wide, int[] a, int[] b, int[] p, boolean isHidden) {
        for (int way = 0; way < 2; way++) {
            int[] first = way == 0 ? a : b;
            int[] second = way == 0 ? b : a;
            TwinFires x = new TwinFires();
            x.hill(first[0], first[1], 10);
            x.hill(second[0], second[1], 10);
            x.put(WIDE, wide);
            t.asks(what + ", nothing there", x, y -> y.sight(0, 1), 1);
            x.image(0);
            x.thing(STONE, p[0], p[1], 99, 0);
            t.asks(what + ", a thing, way " + way, x, y -> y.sight(0, 1), isHidden ? 0 : 1);
            x.from(0);
            if (x.hill(p[0], p[1], 99) >= 0) {
                t.asks(what + ", a hill, way " + way, x, y -> y.sight(0, 1), isHidden ? 0 : 1);
            }
        }
    }

    private static int[] at(int x, int y) {
        return new int[] {x, y};
    }

    private void termsOfAlong() {
        t.says(TERMS, "With dx, dy from a to b, D = dx dx and dy dy: another HILL or a THING, px, py from a, hides "
                + "them, if ALONG = px dx and py dy is above 0");
        hides("beside a, 0", 3, at(5, 5), at(9, 5), at(5, 7), false);
        hides("one on, 4", 3, at(5, 5), at(9, 5), at(6, 7), true);
        hides("one back, -4", 3, at(5, 5), at(9, 5), at(4, 7), false);
        hides("on the line behind a", 0, at(5, 5), at(9, 5), at(4, 5), false);
        hides("on a itself", 3, at(5, 5), at(9, 5), at(5, 5), false);
        // dx 3, dy 4, D 25: 1 is 3 times 3 less 4 times 2; beside by 18, no more than 3 times 4 is 12.
        hides("1 of 25, too far beside", 3, at(5, 5), at(8, 9), at(8, 3), false);
        // dx 2, dy 1, D 5: 1 is 2 less 1, beside by 3.
        hides("1 of 5", 3, at(5, 5), at(7, 6), at(6, 4), true);
        hides("0 of 5", 3, at(5, 5), at(7, 6), at(6, 3), false);
        t.says(TERMS, "and below D,");
        hides("beside b, 16 of 16", 3, at(5, 5), at(9, 5), at(9, 7), false);
        hides("one less, 12 of 16", 3, at(5, 5), at(9, 5), at(8, 7), true);
        hides("one more, 20 of 16", 3, at(5, 5), at(9, 5), at(10, 7), false);
        hides("on the line behind b", 0, at(5, 5), at(9, 5), at(10, 5), false);
        hides("on b itself", 3, at(5, 5), at(9, 5), at(9, 5), false);
        hides("4 of 5", 3, at(5, 5), at(7, 6), at(6, 7), true);
        hides("5 of 5", 3, at(5, 5), at(7, 6), at(6, 8), false);
        // Neighbours: D is 1, so that nothing is between.
        hides("neighbours", 3, at(5, 5), at(6, 5), at(5, 6), false);
        hides("neighbours", 3, at(5, 5), at(6, 5), at(6, 4), false);
    }

    private void termsOfWide() {
        t.says(TERMS, "px dy less py dx, without sign, is no more than WIDE times");
        // dx 8, dy 4: at px 4 it is 16 less 8 py.
        int[] py = {-2, -1, 0, 1, 2, 3, 4, 5, 6};
        int[] beside = {32, 24, 16, 8, 0, 8, 16, 24, 32};
        for (int i = 0; i < py.length; i++) {
            for (int wide = 0; wide < 4; wide++) {
                hides("beside by " + beside[i] + ", wide " + wide, wide, at(0, 4), at(8, 8), at(4, 4 + py[i]),
                        beside[i] <= 8 * wide);
            }
        }
        // The other slope, so that the signs of dx and dy are unlike.
        for (int wide = 0; wide < 4; wide++) {
            hides("downhill, beside by 16, wide " + wide, wide, at(0, 8), at(8, 4), at(4, 4), wide >= 2);
            hides("downhill, beside by 24, wide " + wide, wide, at(0, 8), at(8, 4), at(4, 9), wide >= 3);
        }
        // Just one more than is allowed: dx 5, dy 2 and px 2, py 0 is 4; px 2, py 2 is 6.
        hides("4 is no more than 5", 1, at(5, 5), at(10, 7), at(7, 5), true);
        hides("6 is more than 5", 1, at(5, 5), at(10, 7), at(7, 7), false);
        hides("1 is more than 0", 0, at(5, 5), at(10, 7), at(7, 6), false);
        hides("5 is no more than 5", 1, at(5, 5), at(10, 5), at(7, 6), true);
    }

    private void termsOfWideTheOtherWay() {
        t.says(TERMS, "the greater size of dx, dy,");
        // dx 4, dy 8: the greater is 8, not 4, and not 12.
        hides("dy is greater, 8", 1, at(4, 0), at(8, 8), at(7, 4), true);
        hides("dy is greater, 16", 1, at(4, 0), at(8, 8), at(8, 4), false);
        hides("dy is greater, 16", 2, at(4, 0), at(8, 8), at(8, 4), true);
        hides("dy is greater and below 0, 8", 1, at(4, 8), at(8, 0), at(7, 4), true);
        hides("dy is greater and below 0, 16", 1, at(4, 8), at(8, 0), at(8, 4), false);
        hides("dx is greater, 8", 1, at(0, 4), at(8, 8), at(4, 7), true);
        hides("dx is greater, 16", 1, at(0, 4), at(8, 8), at(4, 8), false);
        // dx 6, dy 6: they are alike.
        hides("alike, 6", 1, at(0, 0), at(6, 6), at(3, 4), true);
        hides("alike, 12", 1, at(0, 0), at(6, 6), at(3, 5), false);
        hides("alike, 12", 2, at(0, 0), at(6, 6), at(3, 5), true);
        hides("straight, 6", 1, at(0, 3), at(6, 3), at(3, 4), true);
        hides("straight, 12", 1, at(0, 3), at(6, 3), at(3, 5), false);
        hides("upright, 6", 1, at(3, 0), at(3, 6), at(2, 3), true);
        hides("upright, 12", 1, at(3, 0), at(3, 6), at(1, 3), false);
    }

    /** Two hills on a line, three apart, and something between them. */
    private void line(int a, int b, int where, int high, int sight) {
        TwinFires x = new TwinFires();
        x.hill(0, 0, a);
        x.hill(3, 0, b);
        x.image(0);
        String what = a + " to " + b + ", " + high + " at " + where;
        x.thing(STONE, where, 0, high, 0);
        t.asks(what, x, y -> y.sight(0, 1), sight);
        x.from(0);
        x.hill(where, 0, high);
        t.asks(what + ", a hill", x, y -> y.sight(0, 1), sight);
    }

    private void termsOfTheLine() {
        t.says(TERMS, "and how high it stands, times D, is more than HEIGHT of a times D and (HEIGHT of b less that of "
                + "a) times ALONG.");
        line(10, 11, 1, 10, 1);
        line(10, 11, 1, 11, 0);
        line(10, 11, 2, 10, 1);
        line(10, 11, 2, 11, 0);
        line(10, 13, 1, 11, 1);
        line(10, 13, 1, 12, 0);
        line(10, 13, 2, 12, 1);
        line(10, 13, 2, 13, 0);
        line(13, 10, 1, 12, 1);
        line(13, 10, 1, 13, 0);
        line(13, 10, 2, 11, 1);
        line(13, 10, 2, 12, 0);
        line(0, 0, 1, 0, 1);
        line(0, 0, 1, 1, 0);
        line(99, 99, 2, 99, 1);
        line(0, 99, 1, 33, 1);
        line(0, 99, 1, 34, 0);
        line(99, 0, 1, 66, 1);
        line(99, 0, 1, 67, 0);
        // The greatest D: 19 and 19, 722; ALONG of 1, 0 is 19, and 99 times 19 is 1881: 2 times 722 is less, 3 times more.
        TwinFires x = new TwinFires();
        x.hill(0, 0, 0);
        x.hill(19, 19, 99);
        x.put(WIDE, 1);
        x.thing(STONE, 1, 0, 2, 0);
        t.asks("2 by 722", x, y -> y.sight(0, 1), 1);
        x.thing(STONE, 1, 0, 3, 0);
        t.asks("3 by 722", x, y -> y.sight(0, 1), 0);
        // dx 2, dy 1, D 5; at 1, 2 ALONG is 4: 55 is more than 50 and 4, 50 is not.
        TwinFires one = new TwinFires();
        one.hill(5, 5, 10);
        one.hill(7, 6, 11);
        one.put(WIDE, 2);
        one.thing(STONE, 6, 7, 10, 0);
        t.asks("50 by 54", one, y -> y.sight(0, 1), 1);
        one.thing(STONE, 6, 7, 11, 0);
        t.asks("55 by 54", one, y -> y.sight(0, 1), 0);
    }

    private void termsOfBothEnds() {
        t.says(TERMS, "(It is alike from both ends.");
        int[][] heights = {{10, 40}, {40, 10}, {25, 25}};
        for (int[] pair : heights) {
            for (int high = 15; high <= 35; high += 5) {
                TwinFires x = new TwinFires();
                x.hill(3, 2, pair[0]);
                x.hill(9, 11, pair[1]);
                x.put(WIDE, 1);
                x.thing(STONE, 5, 5, high, 0);
                int there = x.sight(0, 1);
                t.asks("from b, " + high, x, y -> y.sight(1, 0), there);
                t.asks("what a sees, " + high, x, y -> y.sees(0, 3), 2 * there);
                t.asks("what b sees, " + high, x, y -> y.sees(1, 3), there);
            }
        }
    }

    private void termsOfNothingHigh() {
        t.says(TERMS, "A THING that stands 0 high hides as such.)");
        TwinFires x = new TwinFires();
        x.hill(0, 0, 0);
        x.hill(4, 0, 0);
        x.thing(STONE, 1, 0, 0, 0);
        x.thing(WALL, 2, 0, 99, 0);
        x.thing(WOOD, 3, 0, 99, 9);
        t.asks("a wood", x, y -> y.sight(0, 1), 0);
        x.work(2, true);
        t.asks("0 is no more than the line at 0", x, y -> y.sight(0, 1), 1);
        t.takes("it is lower by nothing", x, y -> y.clear(0, 1, 2), 1);
        t.due("above", x.part(0), 0);
        t.due("below", x.part(1), 1);
        x.work(1, true);
        t.asks("a wall", x, y -> y.sight(0, 1), 0);
    }

    private void newObject() {
        t.says(1, "As told;");
        TwinFires x = new TwinFires();
        long[] night = {-1, 0, -1, 0, -1, 0, -1, 0, -1, 0, -1, 0, -1, 0, -1, 0, -1, 0, -1, 0, -1, 0, -1, 0};
        long[] all = new long[5 + 4 + 12 + night.length + 2];
        all[8] = 9;
        System.arraycopy(night, 0, all, 21, night.length);
        all[46] = 1;
        t.due("digest", x.digest(), Lands.digestOf(all));
        t.due("another one", new TwinFires().digest(), x.digest());
        t.says(1, "no HILLS, no THINGS.");
        for (int i = 0; i < 5; i++) {
            int what = i;
            t.asks("count " + i, x, y -> y.count(what), 0);
        }
        for (int i = 0; i < 3; i++) {
            int what = i;
            t.asks("status " + i, x, y -> y.status(what), 0);
        }
        t.bad("no hill 0", x, y -> y.tower(0));
        t.bad("no thing 0", x, y -> y.high(0));
        t.bad("no bit 0", x, y -> y.judge(1, 0));
        TwinFires apart = new TwinFires();
        x.hill(1, 1, 1);
        t.due("objects share nothing", apart.count(0), 0);
    }

    private void hill() {
        t.says(2, "A HILL: its number.");
        TwinFires x = new TwinFires();
        t.takes("the first", x, y -> y.hill(7, 8, 9), 0);
        t.takes("the second", x, y -> y.hill(8, 7, 9), 1);
        t.due("count", x.count(0), 2);
        t.says(2, "BAD: one stands there, too;");
        t.bad("a taken place", x, y -> y.hill(7, 8, 10));
        t.bad("a taken place", x, y -> y.hill(8, 7, 9));
        t.bad("X", x, y -> y.hill(20, 8, 9));
        t.bad("Y", x, y -> y.hill(7, -1, 9));
        t.bad("HEIGHT", x, y -> y.hill(1, 1, 100));
        t.takes("a refused one takes no place", x, y -> y.hill(1, 1, 1), 2);
        t.says(2, "FULL: 10.");
        for (int i = 3; i < 10; i++) {
            x.hill(i, 19, 0);
        }
        t.full("an eleventh", x, y -> y.hill(0, 19, 0));
        t.bad("a number that is not as told goes ahead", x, y -> y.hill(0, 19, 100));
        t.bad("a taken place goes ahead", x, y -> y.hill(7, 8, 9));
        t.due("ten", x.count(0), 10);
    }

    private void thing() {
        t.says(3, "A THING: its number.");
        TwinFires x = new TwinFires();
        t.takes("the first", x, y -> y.thing(STONE, 7, 8, 9, 0), 0);
        t.takes("the second", x, y -> y.thing(HEDGE, 7, 8, 9, 9), 1);
        t.due("count", x.count(1), 2);
        t.says(3, "BAD (g 0 for STONES, WALLS);");
        for (int v : new int[] {1, 9, -1, 10, BIG, SMALL}) {
            t.bad("a stone, g " + v, x, y -> y.thing(STONE, 1, 1, 1, v));
            t.bad("a wall, g " + v, x, y -> y.thing(WALL, 1, 1, 1, v));
        }
        t.takes("a refused one takes no place", x, y -> y.thing(WALL, 1, 1, 1, 0), 2);
        t.says(3, "FULL: 8.");
        for (int i = 3; i < 8; i++) {
            x.thing(TOPPED, 1, 1, 1, 1);
        }
        t.full("a ninth", x, y -> y.thing(STONE, 1, 1, 1, 0));
        t.bad("a number that is not as told goes ahead", x, y -> y.thing(STONE, 1, 1, 1, 1));
        t.bad("a kind that is none goes ahead", x, y -> y.thing(6, 1, 1, 1, 0));
        t.due("eight", x.count(1), 8);
    }

    private void put() {
        t.says(4, "YEAR (0), MIST (1), WIDE (2), TRUTH (3): what it was.");
        TwinFires x = new TwinFires();
        int[] first = {0, 0, 0, 9};
        int[] then = {11, 22, 3, 4};
        for (int i = 0; i < 4; i++) {
            int what = i;
            t.takes("at first " + i, x, y -> y.put(what, then[what]), first[i]);
        }
        for (int i = 0; i < 4; i++) {
            int what = i;
            t.takes("each for itself " + i, x, y -> y.put(what, 2), then[i]);
        }
        t.says(4, "BAD.");
        for (int v : Sentences.outside(0, 3)) {
            t.bad("what " + v, x, y -> y.put(v, 1));
            t.bad("both " + v, x, y -> y.put(v, v));
        }
        t.bad("WIDE 4", x, y -> y.put(WIDE, 4));
        t.bad("TRUTH 0", x, y -> y.put(TRUTH, 0));
        t.bad("TRUTH 11", x, y -> y.put(TRUTH, 11));
        t.bad("YEAR 100", x, y -> y.put(YEAR, 100));
        t.bad("MIST -1", x, y -> y.put(MIST, -1));
    }

    private void work() {
        t.says(5, "A THING is FELLED or RAISED, or not: 1.");
        TwinFires x = new TwinFires();
        for (int kind = STONE; kind <= WALL; kind++) {
            x.thing(kind, 1, 1, 8, 0);
        }
        int[] felled = {8, 0, 0, 0, 0, 8};
        int[] stands = {8, 8, 8, 8, 4, 0};
        for (int i = 1; i < 6; i++) {
            int thing = i;
            t.takes("done, kind " + i, x, y -> y.work(thing, true), 1);
            t.due("high", x.high(i), felled[i]);
            t.takes("undone, kind " + i, x, y -> y.work(thing, false), 1);
            t.due("high", x.high(i), stands[i]);
        }
        t.says(5, "BAD: a STONE, too;");
        t.bad("a stone", x, y -> y.work(0, true));
        t.bad("a stone, ahead of NO", x, y -> y.work(0, false));
        for (int v : Sentences.outside(0, 5)) {
            t.bad("thing " + v, x, y -> y.work(v, true));
            t.bad("thing " + v, x, y -> y.work(v, false));
        }
        t.says(5, "NO: it is so.");
        for (int i = 1; i < 6; i++) {
            int thing = i;
            t.no("undone already, kind " + i, x, y -> y.work(thing, false));
            x.work(thing, true);
            t.no("done already, kind " + i, x, y -> y.work(thing, true));
        }
    }

    private void cost() {
        t.says(6, "COST of a THING: what it was.");
        TwinFires x = new TwinFires();
        for (int kind = STONE; kind <= WALL; kind++) {
            int thing = kind;
            x.thing(kind, 1, 1, 8, 0);
            t.takes("at first, kind " + kind, x, y -> y.cost(thing, 90 + thing), 1);
        }
        for (int kind = STONE; kind <= WALL; kind++) {
            int thing = kind;
            t.takes("then, kind " + kind, x, y -> y.cost(thing, 0), 90 + kind);
        }
        t.says(6, "BAD.");
        for (int v : Sentences.outside(0, 5)) {
            t.bad("thing " + v, x, y -> y.cost(v, 1));
        }
        for (int v : Sentences.outside(0, 99)) {
            t.bad("COST " + v, x, y -> y.cost(0, v));
        }
    }

    private void high() {
        t.says(7, "How high a THING stands.");
        TwinFires x = new TwinFires();
        for (int i = 0; i < 8; i++) {
            x.thing(STONE, 1, 1, 99 - i, 0);
        }
        for (int i = 0; i < 8; i++) {
            int thing = i;
            t.asks("thing " + i, x, y -> y.high(thing), 99 - i);
        }
        t.says(7, "BAD.");
        for (int v : Sentences.outside(0, 7)) {
            t.bad("thing " + v, x, y -> y.high(v));
        }
        TwinFires none = new TwinFires();
        t.bad("none is there", none, y -> y.high(0));
        none.thing(STONE, 1, 1, 1, 0);
        t.bad("the next one is not there", none, y -> y.high(1));
    }

    private void sight() {
        t.says(8, "Whether two HILLS are in SIGHT (1, 0).");
        TwinFires x = Lands.chain(10);
        for (int a = 0; a < 10; a++) {
            for (int b = 0; b < 10; b++) {
                int first = a;
                int second = b;
                if (a != b) {
                    t.due(a + " to " + b, x.sight(first, second), Math.abs(a - b) == 1 ? 1 : 0);
                }
            }
        }
        t.says(8, "BAD: alike, too.");
        for (int a = 0; a < 10; a++) {
            int hill = a;
            t.bad("alike " + a, x, y -> y.sight(hill, hill));
        }
        for (int v : Sentences.outside(0, 9)) {
            t.bad("first " + v, x, y -> y.sight(v, 1));
            t.bad("second " + v, x, y -> y.sight(1, v));
            t.bad("both " + v, x, y -> y.sight(v, v));
        }
    }

    private void fraction(String what, TwinFires x, long above, long below) {
        t.asks(what + ", above", x, y -> y.part(0), above);
        t.asks(what + ", below", x, y -> y.part(1), below);
    }

    private void clear() {
        t.says(9, "How much higher the line of two HILLS is than a THING (below 0: lower) is THE FRACTION: 1.");
        TwinFires x = new TwinFires();
        x.hill(0, 0, 10);
        x.hill(3, 0, 20);
        x.thing(STONE, 1, 0, 13, 0);
        x.thing(STONE, 1, 0, 14, 0);
        x.thing(STONE, 2, 19, 99, 0);
        x.thing(WALL, 1, 0, 99, 0);
        t.takes("a third higher", x, y -> y.clear(0, 1, 0), 1);
        fraction("a third higher", x, 1, 3);
        t.takes("two thirds lower", x, y -> y.clear(0, 1, 1), 1);
        fraction("two thirds lower", x, -2, 3);
        t.takes("from the other end", x, y -> y.clear(1, 0, 1), 1);
        fraction("from the other end", x, -2, 3);
        t.takes("far beside, whatever WIDE is", x, y -> y.clear(0, 1, 2), 1);
        fraction("far beside", x, -247, 3);
        t.takes("a wall that is not raised", x, y -> y.clear(0, 1, 3), 1);
        fraction("not raised", x, 40, 3);
        x.work(3, true);
        t.takes("a raised wall", x, y -> y.clear(0, 1, 3), 1);
        fraction("raised", x, -257, 3);
        TwinFires whole = Lands.two();
        whole.thing(STONE, 1, 0, 10, 0);
        whole.thing(STONE, 1, 0, 99, 0);
        whole.thing(STONE, 1, 0, 0, 0);
        t.takes("as high", whole, y -> y.clear(0, 1, 0), 1);
        fraction("as high", whole, 0, 1);
        t.takes("much lower", whole, y -> y.clear(0, 1, 1), 1);
        fraction("much lower", whole, -89, 1);
        t.takes("much higher", whole, y -> y.clear(0, 1, 2), 1);
        fraction("much higher", whole, 10, 1);
        whole.put(MIST, 99);
        t.takes("in mist, too", whole, y -> y.clear(0, 1, 0), 1);
        fraction("in mist", whole, 0, 1);
    }

    private void clearRefuses() {
        t.says(9, "BAD;");
        TwinFires x = Lands.two();
        x.thing(STONE, 1, 0, 3, 0);
        x.clear(0, 1, 0);
        for (int v : Sentences.outside(0, 1)) {
            t.bad("first " + v, x, y -> y.clear(v, 1, 0));
            t.bad("second " + v, x, y -> y.clear(0, v, 0));
        }
        for (int v : Sentences.outside(0, 0)) {
            t.bad("thing " + v, x, y -> y.clear(0, 1, v));
            t.bad("ahead of NO, thing " + v, x, y -> y.clear(0, 0, v));
        }
        fraction("as it was", x, 7, 1);
        t.says(9, "NO: ALONG is not above 0 and below D.");
        int[][] places = {{0, 0}, {4, 0}, {0, 19}, {4, 19}, {5, 0}, {19, 19}};
        for (int[] p : places) {
            int thing = x.thing(STONE, p[0], p[1], 3, 0);
            t.no("at " + p[0] + " " + p[1], x, y -> y.clear(0, 1, thing));
            t.no("at " + p[0] + " " + p[1] + ", from the other end", x, y -> y.clear(1, 0, thing));
        }
        t.no("alike: ALONG and D are 0", x, y -> y.clear(0, 0, 0));
        t.no("alike: ALONG and D are 0", x, y -> y.clear(1, 1, 0));
        fraction("as it was", x, 7, 1);
        int near = x.thing(STONE, 3, 19, 3, 0);
        t.takes("12 of 16", x, y -> y.clear(0, 1, near), 1);
        TwinFires back = new TwinFires();
        back.hill(5, 5, 10);
        back.hill(9, 5, 10);
        back.thing(STONE, 4, 5, 3, 0);
        t.no("below 0", back, y -> y.clear(0, 1, 0));
    }

    private void type() {
        t.says(10, "The lowest n (1 .. 8) bytes of v, the highest of them first, come to THE TEXT: how many it has.");
        String text = "year 12;";
        for (int n = 1; n <= 8; n++) {
            TwinFires x = new TwinFires();
            int had = 0;
            for (int at = 0; at < 8; at += n) {
                int size = Math.min(n, 8 - at);
                // Bytes above the lowest ones are 255, and must not come.
                long v = -1;
                for (int i = at; i < at + size; i++) {
                    v = v << 8 | text.charAt(i);
                }
                had += size;
                t.due(n + " at a time", x.type(v, size), had);
            }
            t.due(n + " at a time, read", x.land(), 1);
            t.due(n + " at a time, the year", x.put(YEAR, 0), 12);
        }
        TwinFires low = new TwinFires();
        t.takes("the least of all", low, y -> y.type(Long.MIN_VALUE, 1), 1);
        t.due("a byte 0", low.land(), -10);
        low.clearText();
        t.takes("all bits", low, y -> y.type(Long.MIN_VALUE | 0x20202020202020L, 8), 8);
        t.due("a byte 128 comes first", low.land(), -10);
        low.clearText();
        t.takes("its lower bytes", low, y -> y.type(Long.MIN_VALUE | 0x20202020202020L, 7), 7);
        t.due("blanks alone", low.land(), 0);
        t.says(10, "BAD;");
        TwinFires x = new TwinFires();
        x.type(0x20, 1);
        for (int v : Sentences.outside(1, 8)) {
            t.bad("n " + v, x, y -> y.type(0x2020202020202020L, v));
        }
        t.due("nothing came", x.count(2), 1);
    }

    private void typeFull() {
        t.says(10, "FULL.");
        for (int n = 1; n <= 8; n++) {
            int size = n;
            TwinFires x = new TwinFires();
            while (x.count(2) + 8 <= 240 - n) {
                x.type(0x2020202020202020L, 8);
            }
            while (x.count(2) + 1 <= 240 - n + 1) {
                x.type(0x20, 1);
            }
            t.full(n + " come to 241", x, y -> y.type(0x3F3F3F3F3F3F3F3FL, size));
            t.due("nothing came of them", x.count(2), 240 - n + 1);
            t.due("blanks alone", x.land(), 0);
            if (n > 1) {
                t.takes((n - 1) + " come to 240", x, y -> y.type(0x2020202020202020L, size - 1), 240);
            }
            t.full("one more", x, y -> y.type(0x20, 1));
            t.bad("n goes ahead", x, y -> y.type(0x20, 0));
            t.bad("n goes ahead", x, y -> y.type(0x20, 9));
            t.due("blanks alone", x.land(), 0);
            t.due("all were there", x.clearText(), 240);
            t.takes("there is room again", x, y -> y.type(0x20, 8), 8);
        }
    }

    private void clearText() {
        t.says(11, "THE TEXT is empty: how many it had.");
        TwinFires x = new TwinFires();
        t.asks("it had none", x, y -> y.clearText(), 0);
        x.type(0x3F, 1);
        t.takes("it had one", x, y -> y.clearText(), 1);
        t.due("empty", x.count(2), 0);
        t.asks("it had none", x, y -> y.clearText(), 0);
        for (int i = 0; i < 30; i++) {
            x.type(0x3F3F3F3F3F3F3F3FL, 8);
        }
        t.takes("it was full", x, y -> y.clearText(), 240);
        t.due("no byte is left", x.land(), 0);
        t.takes("from the start again", x, y -> y.type(0x20, 1), 1);
        t.due("no old byte behind it", x.land(), 0);
    }
}
