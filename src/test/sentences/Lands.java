/** Lands that tests are told on. */
final class Lands {
    static final int STONE = 0, WOOD = 1, PINE = 2, HEDGE = 3, TOPPED = 4, WALL = 5;
    static final int YEAR = 0, MIST = 1, WIDE = 2, TRUTH = 3;

    private Lands() {
    }

    /** Two hills, 10 high, at 0, 0 and 4, 0: they see each other. */
    static TwinFires two() {
        TwinFires x = new TwinFires();
        x.hill(0, 0, 10);
        x.hill(4, 0, 10);
        return x;
    }

    /** Four hills at the corners of a square, all 10 high: each sees each. */
    static TwinFires square() {
        TwinFires x = new TwinFires();
        x.hill(0, 0, 10);
        x.hill(6, 0, 10);
        x.hill(0, 6, 10);
        x.hill(6, 6, 10);
        return x;
    }

    /**
     * Hills on a line, the higher the nearer to its middle (10, 18, 24, 28, 30, 30, 28, ..): each sees its
     * neighbours alone. A LAWFUL SET is made of pairs of neighbours with a dark hill between two pairs.
     */
    static TwinFires chain(int hills) {
        TwinFires x = new TwinFires();
        for (int i = 0; i < hills; i++) {
            x.hill(2 * i, 0, 10 + i * (9 - i));
        }
        return x;
    }

    /** Ten hills in five pairs, stones between the pairs: each sees its twin alone; 32 LAWFUL SETS. */
    static TwinFires twins() {
        TwinFires x = new TwinFires();
        for (int pair = 0; pair < 5; pair++) {
            x.hill(3 * pair, 0, 10);
            x.hill(3 * pair + 1, 0, 10);
        }
        for (int stone = 0; stone < 4; stone++) {
            x.thing(STONE, 3 * stone + 2, 0, 99, 0);
        }
        return x;
    }

    /**
     * Four pairs as in twins, and hill 8, a town that sees all of them: 24 LAWFUL SETS, 16 of pairs, 8 of the town
     * and one other.
     */
    static TwinFires town() {
        TwinFires x = new TwinFires();
        for (int pair = 0; pair < 4; pair++) {
            x.hill(3 * pair, 0, 10);
            x.hill(3 * pair + 1, 0, 10);
        }
        x.hill(5, 19, 99);
        for (int stone = 0; stone < 3; stone++) {
            x.thing(STONE, 3 * stone + 2, 0, 99, 0);
        }
        return x;
    }

    static void write(TwinFires x, String text) {
        x.clearText();
        for (int at = 0; at < text.length(); at += 8) {
            int n = Math.min(8, text.length() - at);
            long v = 0;
            for (int i = at; i < at + n; i++) {
                v = v << 8 | text.charAt(i);
            }
            x.type(v, n);
        }
    }

    static int read(String text) {
        TwinFires x = new TwinFires();
        write(x, text);
        return x.land();
    }

    /** What a digest is of these. */
    static long digestOf(long... all) {
        long h = 619;
        for (long v : all) {
            h = 31 * h + v;
        }
        return h;
    }
}
