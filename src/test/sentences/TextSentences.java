/** A land told by a text: the terms of THE LAND, and promise 12. */
final class TextSentences {
    private static final int TERMS = Sentences.TERMS;
    private static final int YEAR = Lands.YEAR, MIST = Lands.MIST, WIDE = Lands.WIDE, TRUTH = Lands.TRUTH;
    private static final int STONE = Lands.STONE, WOOD = Lands.WOOD, WALL = Lands.WALL;
    private final Sentences t;

    TextSentences(Sentences t) {
        this.t = t;
    }

    void all() {
        lengths();
        items();
        growingItems();
        dials();
        words();
        figures();
        blanks();
        faults();
        faultsByByte();
        endsTooEarly();
        toldAnew();
        allElseStays();
        inTheirOrder();
        refusedItems();
        nothingChanges();
        land();
        landAnswers();
    }

    private void reads(String text, int items) {
        t.due("'" + text + "'", Lands.read(text), items);
    }

    private void fault(String text, int place) {
        t.due("fault of '" + text + "'", Lands.read(text), -10 - place);
    }

    private void refusedItem(String text, int item) {
        t.due("item of '" + text + "'", Lands.read(text), -1000 - item);
    }

    private void lengths() {
        t.says(TERMS, "THE LAND is a TEXT (240 bytes at most) of ITEMS,");
        reads("year1;".repeat(40), 40);
        reads(" ".repeat(234) + "year1;", 1);
        reads("year1;" + " ".repeat(234), 1);
        fault("year1;".repeat(39) + "year1?", 239);
        fault(" ".repeat(239) + "?", 239);
        TwinFires x = new TwinFires();
        Lands.write(x, "year1;".repeat(40));
        t.full("a byte more", x, y -> y.type(' ', 1));
        t.says(TERMS, "each ended by ; :");
        reads("year 1;", 1);
        reads("year 1;year 2;", 2);
        fault("year 1", 6);
        fault("year 1 year 2;", 7);
        fault("year 1;;", 7);
        fault(";", 0);
        fault("year 1,", 6);
    }

    private void items() {
        t.says(TERMS, "hill X Y HEIGHT;");
        TwinFires x = new TwinFires();
        Lands.write(x, "hill 3 14 15; hill 19 19 99; hill 0 0 0;");
        t.takes("three hills", x, y -> y.land(), 3);
        t.due("three hills", x.count(0), 3);
        TwinFires same = new TwinFires();
        same.hill(3, 14, 15);
        same.hill(19, 19, 99);
        same.hill(0, 0, 0);
        Lands.write(same, " ".repeat(40));
        t.due("as the calls tell them", x.digest(), same.digest());
        fault("hill 1 2;", 8);
        fault("hill 1 2 3 4;", 11);
        fault("hill;", 4);
        t.says(TERMS, "stone X Y h;");
        thingItem("stone 9 8 77;", STONE, 0);
        fault("stone 1 2;", 9);
        fault("stone 1 2 3 0;", 12);
    }

    /** An item of a thing at 9, 8 of height 77 tells what the call does. */
    private void thingItem(String item, int kind, int g) {
        TwinFires x = new TwinFires();
        Lands.write(x, item);
        t.takes(item, x, y -> y.land(), 1);
        TwinFires same = new TwinFires();
        same.thing(kind, 9, 8, 77, g);
        Lands.write(same, " ".repeat(item.length()));
        t.due(item + " as the call tells it", x.digest(), same.digest());
        x.put(YEAR, 1);
        same.put(YEAR, 1);
        t.due(item + " stands so high", x.high(0), same.high(0));
    }

    private void growingItems() {
        t.says(TERMS, "wood X Y h g,");
        thingItem("wood 9 8 77 4;", WOOD, 4);
        thingItem("wood 9 8 77 9;", WOOD, 9);
        fault("wood 1 2 3;", 10);
        fault("wood 1 2 3 4 5;", 13);
        t.says(TERMS, "pine, hedge, topped likewise;");
        thingItem("pine 9 8 77 0;", Lands.PINE, 0);
        thingItem("hedge 9 8 77 9;", Lands.HEDGE, 9);
        thingItem("topped 9 8 77 5;", Lands.TOPPED, 5);
        fault("pine 1 2 3;", 10);
        fault("hedge 1 2 3;", 11);
        fault("topped 1 2 3;", 12);
        fault("topped 1 2 3 4 5;", 15);
        t.says(TERMS, "wall X Y h;");
        thingItem("wall 9 8 77;", WALL, 0);
        fault("wall 1 2;", 8);
        fault("wall 1 2 3 0;", 11);
    }

    private void dialItem(String item, int what, int v) {
        TwinFires x = new TwinFires();
        Lands.write(x, item);
        t.takes(item, x, y -> y.land(), 1);
        for (int dial = YEAR; dial <= WIDE; dial++) {
            t.due(item + " dial " + dial, x.put(dial, 0), dial == what ? v : 0);
        }
    }

    private void dials() {
        t.says(TERMS, "year n;");
        dialItem("year 0;", YEAR, 0);
        dialItem("year 99;", YEAR, 99);
        fault("year 100;", 5);
        fault("year;", 4);
        fault("year 1 2;", 7);
        t.says(TERMS, "mist n;");
        dialItem("mist 0;", MIST, 0);
        dialItem("mist 99;", MIST, 99);
        fault("mist 100;", 5);
        fault("mist;", 4);
        t.says(TERMS, "wide n.");
        dialItem("wide 0;", WIDE, 0);
        dialItem("wide 3;", WIDE, 3);
        refusedItem("wide 4;", 0);
        refusedItem("wide 99;", 0);
        fault("wide 100;", 5);
        fault("truth 9;", 0);
    }

    private void words() {
        t.says(TERMS, "TOKENS: words of letters a .. z,");
        fault("Year 1;", 0);
        fault("yEar 1;", 0);
        fault("yeaR 1;", 0);
        fault("YEAR 1;", 0);
        fault("ye ar 1;", 0);
        fault("years 1;", 0);
        fault("yea 1;", 0);
        fault("y 1;", 0);
        fault("zzzz 1;", 0);
        fault("yearmist 1;", 0);
        fault("year mist 1;", 5);
        String[] known = {"hill", "stone", "wood", "pine", "hedge", "topped", "wall", "year", "mist", "wide"};
        for (String word : known) {
            fault("year 1; " + word + "x 1;", 8);
            fault("year 1; x" + word + " 1;", 8);
            fault("year 1; " + word.substring(1) + " 1;", 8);
            fault("year 1; " + word.substring(0, word.length() - 1) + " 1;", 8);
            fault("year 1; " + word, 8 + word.length());
            for (int i = 0; i < word.length(); i++) {
                fault("year 1; " + word.substring(0, i) + "q" + word.substring(i + 1) + " 1;", 8);
            }
        }
    }

    private void figures() {
        t.says(TERMS, "figures (1 or 2 are one number), ; ;");
        dialItem("year 7;", YEAR, 7);
        dialItem("year 07;", YEAR, 7);
        dialItem("year 70;", YEAR, 70);
        dialItem("year 00;", YEAR, 0);
        dialItem("year 9;", YEAR, 9);
        dialItem("year 90;", YEAR, 90);
        dialItem("year 09;", YEAR, 9);
        fault("year 1 2;", 7);
        fault("hill12 3;", 8);
        fault("year -1;", 5);
        fault("year +1;", 5);
        fault("year 1.;", 6);
        fault("12", 0);
    }

    private void blanks() {
        t.says(TERMS, "any number of blanks (32) ahead of, between, behind them");
        reads(" year 1;", 1);
        reads("   year   1   ;   ", 1);
        reads("  hill  1  2  3  ;  hill 4 5 6;", 2);
        reads("year1;mist2;wide3;", 3);
        reads("hill1 2 3;wood4 5 6 7;", 2);
        fault("year\t1;", 4);
        fault("year\n1;", 4);
        fault("\nyear 1;", 0);
        fault("year 1;\n", 7);
        t.says(TERMS, "(needed only between two words, two numbers).");
        reads("year1;", 1);
        reads("year1;year2;", 2);
        reads("stone1 2 3;", 1);
        fault("stone123;", 5);
        fault("yearyear 1;", 0);
        // Two figures are one number, so that these are 12 and 3, and 1 and 23.
        fault("stone12 3;", 9);
        fault("stone1 23;", 9);
    }

    private void faults() {
        t.says(TERMS, "FAULT: the place of the first byte of the first TOKEN that can not stand there");
        fault("?", 0);
        fault("   ?", 3);
        fault("1;", 0);
        fault("year hill;", 5);
        fault("year ;", 5);
        fault("year 1 2 ?", 7);
        fault("? year year", 0);
        fault("year 1; 2;", 8);
        fault("hill 1 hill;", 7);
        fault("hill 1 2 stone;", 9);
        fault("hill 1 2 3 stone 1 2 3;", 11);
        fault("wall 1 2 3;wall 1 2 3;wall 1 2;", 30);
        t.says(TERMS, "(a word that is none,");
        fault("hil 1 2 3;", 0);
        fault("year 1; yeer 1;", 8);
        fault("year x;", 5);
        fault("year 1 x;", 7);
        t.says(TERMS, "a run of three figures or more (at its first one),");
        fault("year 123;", 5);
        fault("year 000;", 5);
        fault("year 1234;", 5);
        fault("year 12345678;", 5);
        fault("hill 1 2 300;", 9);
        fault("hill 1 200 3;", 7);
        fault("hill 100 2 3;", 5);
        fault("123", 0);
        fault("year 1 123;", 7);
        reads("year 99;", 1);
    }

    private void faultsByByte() {
        t.says(TERMS, "a byte that begins none, too);");
        for (int b = 0; b < 256; b++) {
            boolean isLetter = b >= 'a' && b <= 'z';
            boolean isFigure = b >= '0' && b <= '9';
            String sign = String.valueOf((char) b);
            int alone = b == ' ' ? 0 : -10;
            t.due("byte " + b + " alone", Lands.read(sign), alone);
            int behindNumber = b == ' ' || isFigure ? 1 : b == ';' ? -17 : -16;
            t.due("byte " + b + " behind a number", Lands.read("year 1" + sign + ";"), behindNumber);
            int behindWord = b == ' ' || isFigure ? 1 : isLetter ? -10 : -14;
            t.due("byte " + b + " behind a word", Lands.read("year" + sign + "1;"), behindWord);
            int behindEnd = b == ' ' ? 1 : -17;
            t.due("byte " + b + " behind an item", Lands.read("year 1;" + sign), behindEnd);
        }
    }

    private void endsTooEarly() {
        t.says(TERMS, "the TEXT's length, if it ends too early");
        fault("year", 4);
        fault("year ", 5);
        fault("year 1", 6);
        fault("year 1   ", 9);
        fault("year 1; mist", 12);
        fault("hill 1 2", 8);
        fault("h", 0);
        String full = "year1;".repeat(39);
        fault(full + "year1 ", 240);
        fault(full + "year  ", 240);
        fault(full + "  year", 240);
        fault(full + "year1", 239);
        t.says(TERMS, "(one that is empty or has blanks alone has none).");
        reads("", 0);
        reads(" ", 0);
        reads(" ".repeat(240), 0);
    }

    private TwinFires lived() {
        TwinFires x = Lands.chain(10);
        for (int i = 0; i < 8; i++) {
            x.thing(WOOD, 1, 1, 1, 1);
            x.cost(i, 50 + i);
            x.work(i, true);
        }
        for (int i = 0; i < 10; i++) {
            x.report(i, i);
            x.blame(i, 9 - i);
        }
        x.put(YEAR, 5);
        x.put(MIST, 6);
        x.put(WIDE, 2);
        x.put(TRUTH, 4);
        for (int hour = 0; hour < 12; hour++) {
            x.mist(hour, 20 + hour);
            x.tell(hour, 9 - hour % 3, hour % 2);
        }
        x.letter(3);
        x.letter(9);
        x.clear(0, 9, 0);
        return x;
    }

    private void toldAnew() {
        t.says(TERMS, "A LAND that is read is told anew by these alone (HILLS, THINGS, COSTS, YEAR, MIST, WIDE, REPORTS, "
                + "BLAMES;");
        TwinFires x = lived();
        Lands.write(x, "hill 7 7 7; wood 6 6 6 6;");
        t.takes("read", x, y -> y.land(), 2);
        t.due("hills", x.count(0), 1);
        t.due("things", x.count(1), 1);
        t.due("the thing is not felled", x.high(0), 6);
        t.due("its cost", x.cost(0, 1), 1);
        t.due("year", x.put(YEAR, 0), 0);
        t.due("mist", x.put(MIST, 0), 0);
        t.due("wide", x.put(WIDE, 0), 0);
        t.due("reports", x.count(3), 0);
        t.due("its report", x.report(0, -1), -1);
        t.due("its blame", x.blame(0, 1), 1);
        t.takes("a new hill", x, y -> y.hill(1, 1, 1), 1);
        t.due("report of a new hill", x.report(1, -1), -1);
        t.due("blame of a new hill", x.blame(1, 1), 1);
        t.takes("a new thing", x, y -> y.thing(WOOD, 1, 1, 5, 0), 1);
        t.due("it is not felled", x.high(1), 5);
        t.due("its cost", x.cost(1, 1), 1);
        TwinFires empty = lived();
        t.takes("an empty one", empty, y -> y.land(), 0);
        t.due("no hills", empty.count(0), 0);
        t.due("no things", empty.count(1), 0);
        t.due("year", empty.put(YEAR, 0), 0);
        t.due("a hill where one was", empty.hill(0, 0, 0), 0);
        TwinFires seen = new TwinFires();
        seen.hill(0, 0, 9);
        seen.hill(18, 0, 9);
        seen.hill(9, 0, 99);
        seen.thing(STONE, 5, 0, 99, 0);
        t.asks("what was between", seen, y -> y.sight(0, 1), 0);
        Lands.write(seen, "hill 0 0 9; hill 18 0 9;");
        seen.land();
        t.asks("is no more", seen, y -> y.sight(0, 1), 1);
        t.asks("is no more", seen, y -> y.tower(0), 0);
        t.asks("is no more", seen, y -> y.tower(1), 0);
    }

    private void allElseStays() {
        t.says(TERMS, "all else stays),");
        TwinFires x = lived();
        x.image(1);
        long above = x.part(0);
        long below = x.part(1);
        x.status(9);
        Lands.write(x, "year 1;");
        t.takes("read", x, y -> y.land(), 1);
        t.due("truth", x.put(TRUTH, 4), 4);
        for (int hour = 0; hour < 12; hour++) {
            t.due("mist of hour " + hour, x.mist(hour, 20 + hour), 20 + hour);
        }
        t.due("letters", x.count(4), 2);
        t.due("the text", x.count(2), 7);
        t.due("the fraction, above", x.part(0), above);
        t.due("the fraction, below", x.part(1), below);
        t.due("status", x.status(0), 1);
        long[] all = new long[5 + 4 + 12 + 2 + 24 + 2];
        all[2] = 7;
        all[4] = 2;
        all[5] = 1;
        all[8] = 4;
        for (int hour = 0; hour < 12; hour++) {
            all[9 + hour] = 20 + hour;
            all[23 + 2 * hour] = 9 - hour % 3;
            all[24 + 2 * hour] = hour % 2;
        }
        all[21] = 3;
        all[22] = 9;
        all[47] = above;
        all[48] = below;
        t.due("the night, too: digest", x.digest(), Lands.digestOf(all));
        t.takes("the image", x, y -> y.from(1), 1);
        t.due("its hills", x.count(0), 10);
    }

    private void inTheirOrder() {
        t.says(TERMS, "in their order;");
        TwinFires x = new TwinFires();
        Lands.write(x, "year 3; wall 1 1 1; hill 5 5 5; stone 2 2 2; hill 6 6 6; year 4; hill 0 0 0;");
        t.takes("read", x, y -> y.land(), 7);
        TwinFires same = new TwinFires();
        same.thing(WALL, 1, 1, 1, 0);
        same.hill(5, 5, 5);
        same.thing(STONE, 2, 2, 2, 0);
        same.hill(6, 6, 6);
        same.put(YEAR, 4);
        same.hill(0, 0, 0);
        Lands.write(same, " ".repeat(x.count(2)));
        t.due("the last year holds", x.digest(), same.digest());
        reads("wood 1 2 3 4; stone 1 2 3; pine 1 2 3 9; wall 1 2 3; hill 1 2 3; mist 4; hedge 9 9 9 9; wall 1 1 1;", 8);
    }

    private void refusedItems() {
        t.says(TERMS, "the first ITEM that is refused (as its call is):");
        refusedItem("hill 20 0 0;", 0);
        refusedItem("hill 0 20 0;", 0);
        refusedItem("hill 99 99 99;", 0);
        refusedItem("hill 1 1 1; hill 1 1 2;", 1);
        refusedItem("hill 1 1 1; hill 2 2 2; hill 1 1 1; hill 2 2 2;", 2);
        refusedItem("stone 20 0 0;", 0);
        refusedItem("wall 0 20 0;", 0);
        refusedItem("wood 0 0 0 10;", 0);
        refusedItem("pine 0 0 0 10;", 0);
        refusedItem("hedge 0 0 0 99;", 0);
        refusedItem("topped 0 0 0 10;", 0);
        refusedItem("topped 20 0 0 0;", 0);
        refusedItem("year 1; wide 4; wide 5;", 1);
        StringBuilder hills = new StringBuilder();
        for (int i = 0; i < 10; i++) {
            hills.append("hill").append(i).append(" 0 0;");
        }
        reads(hills.toString(), 10);
        refusedItem(hills + "hill10 0 0;", 10);
        refusedItem(hills + "hill0 0 0;", 10);
        reads("wall0 0 0;".repeat(8), 8);
        refusedItem("wall0 0 0;".repeat(9), 8);
        refusedItem("wall0 0 0;".repeat(9) + "wide 9;", 8);
        refusedItem("year1;".repeat(39) + "wide4;", 39);
    }

    private void nothingChanges() {
        t.says(TERMS, "nothing changes.");
        String[] texts = {"hill 9 9 9; wide 4;", "year 7; hill 9 9 9; ?", "year 7; hill 9 9 9; hill", "wide 4;", "x",
            "hill 1 1 1; hill 1 1 1;"};
        for (String text : texts) {
            TwinFires x = lived();
            x.image(0);
            Lands.write(x, text);
            long digest = x.digest();
            int answer = x.land();
            t.due("refused '" + text + "'", answer < 0 ? 1 : 0, 1);
            t.asks("again '" + text + "'", x, y -> y.land(), answer);
            t.due("digest", x.digest(), digest);
            t.due("felled as it was", x.high(7), 0);
            x.work(7, false);
            t.due("as high as it was", x.high(7), 6);
            x.from(0);
            t.due("the image", x.digest(), digest);
        }
    }

    private void land() {
        t.says(12, "THE LAND is read: how many ITEMS.");
        TwinFires x = new TwinFires();
        t.takes("none", x, y -> y.land(), 0);
        Lands.write(x, "year 1;");
        t.takes("one", x, y -> y.land(), 1);
        t.takes("again", x, y -> y.land(), 1);
        Lands.write(x, "year1;".repeat(40));
        t.takes("forty", x, y -> y.land(), 40);
        t.says(12, "-10 less the FAULT;");
        t.due("0", Lands.read("?"), -10);
        t.due("1", Lands.read(" ?"), -11);
        t.due("239", Lands.read(" ".repeat(239) + "?"), -249);
        t.due("240", Lands.read(" ".repeat(236) + "year"), -250);
    }

    private void landAnswers() {
        t.says(12, "-1000 less the number (0 on) of the first ITEM that is refused: nothing changes.");
        t.due("0", Lands.read("wide4;"), -1000);
        t.due("1", Lands.read("wide3;wide4;"), -1001);
        t.due("39", Lands.read("wide3;".repeat(39) + "wide4;"), -1039);
        t.due("the fault goes ahead", Lands.read("wide4;?"), -16);
        t.due("the fault goes ahead", Lands.read("wide4;wide"), -20);
        TwinFires x = Lands.two();
        Lands.write(x, "hill 1 1 1; wide 4;");
        t.asks("refused", x, y -> y.land(), -1001);
        t.due("two hills", x.count(0), 2);
        Lands.write(x, "hill 1 1 1; wide?");
        t.asks("a fault", x, y -> y.land(), -26);
        t.due("two hills", x.count(0), 2);
        Lands.write(x, "hill 1 1 1; wide 3;");
        t.takes("read", x, y -> y.land(), 2);
        t.due("one hill", x.count(0), 1);
        Lands.write(x, "hill 1 1 1; hill 2 2 2; wide 4;");
        t.asks("refused behind one that was read", x, y -> y.land(), -1002);
        Lands.write(x, "hill 1 1 1; hill 2 2 2; wide 4");
        t.asks("a fault behind one that was read", x, y -> y.land(), -40);
        t.due("one hill still", x.count(0), 1);
        t.due("it is wide", x.put(WIDE, 0), 3);
    }
}
