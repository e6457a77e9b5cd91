import java.math.BigInteger;
import java.util.ArrayList;
import java.util.HashMap;
import java.util.HashSet;
import java.util.List;
import java.util.Map;
import java.util.Random;
import java.util.Set;
import java.util.TreeMap;
import java.util.regex.Matcher;
import java.util.regex.Pattern;

/** Random runs against a second program that was written from the document in the slowest plain way. */
public final class ModelTest {
    private static final int RUNS = 1500;
    private static final int CALLS = 300;
    private static int wrong = 0;

    public static void main(String[] args) {
        Map<String, Integer> answers = new TreeMap<>();
        for (int run = 0; run < RUNS && wrong < 10; run++) {
            oneRun(run, answers);
        }
        if (args.length > 0) {
            System.out.println(answers);
        }
        System.out.println(wrong == 0 ? "the model agrees" : wrong + " runs differ from the model");
        if (wrong != 0) {
            System.exit(1);
        }
    }

    private static void oneRun(int run, Map<String, Integer> answers) {
        Random r = new Random(7000 + run);
        TwinFires x = new TwinFires();
        Model m = new Model();
        Caller c = new Caller(r, x, m);
        for (int call = 0; call < CALLS; call++) {
            c.next();
            String kind = c.name + (c.want >= 0 ? " ok" : " " + (c.want < -6 && c.name.equals("land") ? -9 : c.want));
            answers.merge(kind, 1, Integer::sum);
            if (c.got != c.want) {
                wrong++;
                System.out.println("run " + run + ", call " + call + ": " + c.name + c.args
                        + " answered " + c.got + ", the model says " + c.want);
                return;
            }
            if (x.digest() != m.digest()) {
                wrong++;
                System.out.println("run " + run + ", call " + call + ": digest differs behind " + c.name + c.args);
                return;
            }
        }
    }

    /** Draws a call and makes it on both. */
    private static final class Caller {
        final Random r;
        final TwinFires x;
        final Model m;
        final int grid;
        final int wild;
        String name;
        String args;
        long got;
        long want;

        Caller(Random r, TwinFires x, Model m) {
            this.r = r;
            this.x = x;
            this.m = m;
            grid = 2 + r.nextInt(7);
            wild = 10 + r.nextInt(60);
        }

        private int odd(int ordinary) {
            if (r.nextInt(wild) != 0) {
                return ordinary;
            }
            int[] edges = {-1, -2, -3, 0, 1, 2, 3, 4, 5, 6, 7, 8, 9, 10, 11, 12, 19, 20, 99, 100, 1023, 1024,
                Integer.MAX_VALUE, Integer.MIN_VALUE};
            return edges[r.nextInt(edges.length)];
        }

        private int upTo(int n) {
            return odd(r.nextInt(Math.max(1, n)));
        }

        private int aHill() {
            return upTo(m.hills.size());
        }

        private int aThing() {
            return upTo(m.things.size());
        }

        private int aSet() {
            if (r.nextInt(4) == 0) {
                return odd(r.nextInt(1 << m.hills.size()));
            }
            List<Integer> lawful = m.lawfulSets(m.mist);
            return odd(lawful.get(r.nextInt(lawful.size())));
        }

        private void say(String name, Object... args) {
            this.name = name;
            this.args = List.of(args).toString();
        }

        void next() {
            if (r.nextInt(5) == 0) {
                building();
            } else if (r.nextInt(3) == 0) {
                keeping();
            } else {
                asking();
            }
        }

        private void building() {
            switch (r.nextInt(12)) {
                case 0: case 1: case 2: {
                    int a = upTo(grid), b = upTo(grid), h = odd(r.nextInt(3) == 0 ? r.nextInt(100) : r.nextInt(20));
                    say("hill", a, b, h);
                    got = x.hill(a, b, h);
                    want = m.hill(a, b, h);
                    break;
                }
                case 3: case 4: {
                    int k = upTo(6), a = upTo(grid), b = upTo(grid), h = odd(r.nextInt(30));
                    int g = odd(k == 0 || k == 5 ? 0 : r.nextInt(10));
                    say("thing", k, a, b, h, g);
                    got = x.thing(k, a, b, h, g);
                    want = m.thing(k, a, b, h, g);
                    break;
                }
                case 5: case 6: {
                    int w = upTo(4);
                    int v = odd(w == 2 ? r.nextInt(4) : w == 3 ? 1 + r.nextInt(10) : w == 1 ? r.nextInt(15)
                            : r.nextInt(4) == 0 ? 85 + r.nextInt(15) : r.nextInt(9));
                    say("put", w, v);
                    got = x.put(w, v);
                    want = m.put(w, v);
                    break;
                }
                case 7: {
                    int t = aThing();
                    boolean d = r.nextBoolean();
                    say("work", t, d);
                    got = x.work(t, d);
                    want = m.work(t, d);
                    break;
                }
                case 8: {
                    int t = aThing(), v = odd(r.nextInt(5));
                    say("cost", t, v);
                    got = x.cost(t, v);
                    want = m.cost(t, v);
                    break;
                }
                case 9: {
                    int h = upTo(12), v = odd(r.nextInt(3) == 0 ? r.nextInt(30) : 0);
                    say("mist", h, v);
                    got = x.mist(h, v);
                    want = m.mist(h, v);
                    break;
                }
                case 10: {
                    text();
                    break;
                }
                default: {
                    int i = upTo(2);
                    boolean keep = r.nextBoolean();
                    say(keep ? "image" : "from", i);
                    got = keep ? x.image(i) : x.from(i);
                    want = keep ? m.image(i) : m.from(i);
                    break;
                }
            }
        }

        private void text() {
            say("clearText");
            got = x.clearText();
            want = m.clearText();
            if (got != want) {
                return;
            }
            String t = aText();
            for (int i = 0; i < t.length(); ) {
                int n = 1 + r.nextInt(8);
                long v = r.nextLong();
                for (int k = 0; k < n; k++) {
                    v = v << 8 | (i + k < t.length() ? t.charAt(i + k) : ' ');
                }
                say("type", v, n);
                got = x.type(v, n);
                want = m.type(v, n);
                if (got != want) {
                    return;
                }
                i += n;
            }
            say("land", t);
            got = x.land();
            want = m.land();
        }

        private String aText() {
            String[] words = {"hill", "hill", "hill", "stone", "wood", "pine", "hedge", "topped", "wall", "year", "mist", "wide"};
            int[] many = {3, 3, 3, 3, 4, 4, 4, 4, 3, 1, 1, 1};
            StringBuilder b = new StringBuilder();
            int items = r.nextInt(22);
            for (int i = 0; i < items && b.length() < 225; i++) {
                int w = r.nextInt(words.length);
                b.append(" ".repeat(r.nextInt(8) / 6)).append(words[w]);
                for (int k = 0; k < many[w]; k++) {
                    int n = w == 11 ? r.nextInt(4) : k == 3 ? r.nextInt(10) : k == 2 ? r.nextInt(40) : r.nextInt(10);
                    n = r.nextInt(150) == 0 ? r.nextInt(100) : n;
                    b.append(k > 0 ? " " : "").append(" ".repeat(r.nextInt(8) / 7));
                    b.append(r.nextInt(20) == 0 && n < 10 ? "0" : "").append(n);
                }
                b.append(" ".repeat(r.nextInt(8) / 7)).append(';');
            }
            for (int i = r.nextInt(3) == 0 ? 1 + r.nextInt(2) : 0; i > 0 && b.length() > 0; i--) {
                int at = r.nextInt(b.length());
                switch (r.nextInt(4)) {
                    case 0: b.deleteCharAt(at); break;
                    case 2: b.setCharAt(at, (char) ('a' + r.nextInt(26))); break;
                    case 1: b.insert(at, " 0;ahpA-\u00e9\u0000\t9".charAt(r.nextInt(12))); break;
                    default: b.setLength(at); break;
                }
            }
            return b.toString();
        }

        private void keeping() {
            switch (r.nextInt(12)) {
                case 0: {
                    int n = odd(r.nextInt(4));
                    say("letter", n);
                    got = x.letter(n);
                    want = m.letter(n);
                    break;
                }
                case 1: {
                    boolean un = r.nextInt(4) == 0;
                    int f = aSet(), t = aHill();
                    say(un ? "unword" : "toldIn", f, t);
                    got = un ? x.unword() : x.toldIn(f, t);
                    want = un ? m.unword() : m.toldIn(f, t);
                    break;
                }
                case 2: case 3: {
                    int h = aHill(), n = odd(r.nextInt(2) == 0 ? -1 : r.nextInt(3));
                    say("report", h, n);
                    got = x.report(h, n);
                    want = m.report(h, n);
                    break;
                }
                case 4: {
                    int h = aHill(), v = odd(r.nextInt(3));
                    say("blame", h, v);
                    got = x.blame(h, v);
                    want = m.blame(h, v);
                    break;
                }
                case 5: {
                    int s = aSet();
                    say("without", s);
                    got = x.without(s);
                    want = m.without(s);
                    break;
                }
                case 6: {
                    int s = aSet(), h = aHill();
                    say("chance", s, h);
                    got = x.chance(s, h);
                    want = m.chance(s, h);
                    break;
                }
                case 7: {
                    int s = aSet(), h = aHill();
                    say("lies", s, h);
                    got = x.lies(s, h);
                    want = m.lies(s, h);
                    break;
                }
                case 8: case 9: {
                    boolean none = r.nextInt(3) > 0;
                    int o = upTo(12), h = none ? odd(-1) : aHill(), w = none ? odd(0) : odd(r.nextInt(2));
                    say("tell", o, h, w);
                    got = x.tell(o, h, w);
                    want = m.tell(o, h, w);
                    break;
                }
                case 10: {
                    int s = aSet(), w = upTo(3);
                    say("night", s, w);
                    got = x.night(s, w);
                    want = m.night(s, w);
                    break;
                }
                default: {
                    int w = upTo(5), k = r.nextInt(3);
                    say(k == 0 ? "part" : k == 1 ? "status" : "count", w);
                    got = k == 0 ? x.part(w) : k == 1 ? x.status(w) : x.count(w);
                    want = k == 0 ? m.part(w) : k == 1 ? m.status(w) : m.count(w);
                    break;
                }
            }
        }

        private void asking() {
            int a = aHill(), b = aHill(), s = aSet(), t = aSet(), two = upTo(2);
            switch (r.nextInt(16)) {
                case 0: say("high", a); got = x.high(a); want = m.high(a); break;
                case 1: say("sight", a, b); got = x.sight(a, b); want = m.sight(a, b); break;
                case 2: {
                    int c = aThing();
                    say("clear", a, b, c);
                    got = x.clear(a, b, c);
                    want = m.clear(a, b, c);
                    break;
                }
                case 3: say("sees", a, s); got = x.sees(a, s); want = m.sees(a, s); break;
                case 4: say("judge", s, two); got = x.judge(s, two); want = m.judge(s, two); break;
                case 5: {
                    int h = r.nextInt(3) == 0 ? -1 : a;
                    say("most", h, two);
                    got = x.most(h, two);
                    want = m.most(h, two);
                    break;
                }
                case 6: {
                    int n = odd(r.nextInt(12) - 1);
                    say("lawful", n);
                    got = x.lawful(n);
                    want = m.lawful(n);
                    break;
                }
                case 7: say("years", s); got = x.years(s); want = m.years(s); break;
                case 8: say("hours", s); got = x.hours(s); want = m.hours(s); break;
                case 9: say("fewest", s, two); got = x.fewest(s, two); want = m.fewest(s, two); break;
                case 10: say("cheapest", s, two); got = x.cheapest(s, two); want = m.cheapest(s, two); break;
                case 11: say("tower", a); got = x.tower(a); want = m.tower(a); break;
                case 12: {
                    int i = odd(r.nextInt(6) - 1);
                    say("row", s, t, i);
                    got = x.row(s, t, i);
                    want = m.row(s, t, i);
                    break;
                }
                case 13: {
                    int n = odd(r.nextInt(5));
                    say("reach", s, n);
                    got = x.reach(s, n);
                    want = m.reach(s, n);
                    break;
                }
                case 14: {
                    int n = odd(r.nextInt(7));
                    say("words", s, a, n);
                    got = x.words(s, a, n);
                    want = m.words(s, a, n);
                    break;
                }
                default: {
                    int i = odd(r.nextInt(6) - 1);
                    say("byMists", s, t, i);
                    got = x.byMists(s, t, i);
                    want = m.byMists(s, t, i);
                    break;
                }
            }
        }
    }

    private static final class Thing implements Cloneable {
        int kind, x, y, h, g, cost = 1;
        boolean done;

        int high(int year) {
            switch (kind) {
                case 0: return h;
                case 1: return done ? 0 : Math.min(99, h + g * year);
                case 2: return done ? 0 : Math.min(99, h + 2 * g * year);
                case 3: return done ? 0 : Math.min(99, h + g * (year % 5));
                case 4: return done ? 0 : Math.min(99, h + 2 * g * year) / 2;
                default: return done ? h : 0;
            }
        }

        Thing copy() {
            try {
                return (Thing) clone();
            } catch (CloneNotSupportedException e) {
                throw new IllegalStateException(e);
            }
        }
    }

    private static final class Hill implements Cloneable {
        int x, y, height, report = -1, blame = 1;

        Hill copy() {
            try {
                return (Hill) clone();
            } catch (CloneNotSupportedException e) {
                throw new IllegalStateException(e);
            }
        }
    }

    private static final class Model {
        List<Hill> hills = new ArrayList<>();
        List<Thing> things = new ArrayList<>();
        int year = 0, mist = 0, wide = 0, truth = 9;
        int[] mists = new int[12];
        List<Integer> word = new ArrayList<>();
        int[] nightHill = {-1, -1, -1, -1, -1, -1, -1, -1, -1, -1, -1, -1};
        int[] nightHow = new int[12];
        final StringBuilder text = new StringBuilder();
        BigInteger above = BigInteger.ZERO, below = BigInteger.ONE;
        final int[] refused = new int[3];
        final Model[] images = new Model[2];

        int no(int why, int answer) {
            refused[-2 - why]++;
            return answer;
        }

        int bad() {
            return no(-2, -2);
        }

        boolean in(int v, int a, int b) {
            return a <= v && v <= b;
        }

        boolean isHill(int a) {
            return in(a, 0, hills.size() - 1);
        }

        boolean isThing(int a) {
            return in(a, 0, things.size() - 1);
        }

        boolean isSet(int s) {
            for (int bit = 0; bit < 32; bit++) {
                if ((s >>> bit & 1) == 1 && !isHill(bit)) {
                    return false;
                }
            }
            return true;
        }

        void takeFrom(Model o) {
            hills = new ArrayList<>();
            o.hills.forEach(h -> hills.add(h.copy()));
            things = new ArrayList<>();
            o.things.forEach(t -> things.add(t.copy()));
            year = o.year;
            mist = o.mist;
            wide = o.wide;
            truth = o.truth;
            mists = o.mists.clone();
            word = new ArrayList<>(o.word);
            nightHill = o.nightHill.clone();
            nightHow = o.nightHow.clone();
        }

        int tryHill(int x, int y, int height) {
            boolean taken = hills.stream().anyMatch(h -> h.x == x && h.y == y);
            if (!in(x, 0, 19) || !in(y, 0, 19) || !in(height, 0, 99) || taken) {
                return -2;
            }
            if (hills.size() == 10) {
                return -4;
            }
            Hill h = new Hill();
            h.x = x;
            h.y = y;
            h.height = height;
            hills.add(h);
            return hills.size() - 1;
        }

        int hill(int x, int y, int height) {
            int a = tryHill(x, y, height);
            return a < 0 ? no(a, a) : a;
        }

        int tryThing(int kind, int x, int y, int h, int g) {
            if (!in(kind, 0, 5) || !in(x, 0, 19) || !in(y, 0, 19) || !in(h, 0, 99) || !in(g, 0, 9)) {
                return -2;
            }
            if ((kind == 0 || kind == 5) && g != 0) {
                return -2;
            }
            if (things.size() == 8) {
                return -4;
            }
            Thing t = new Thing();
            t.kind = kind;
            t.x = x;
            t.y = y;
            t.h = h;
            t.g = g;
            things.add(t);
            return things.size() - 1;
        }

        int thing(int kind, int x, int y, int h, int g) {
            int a = tryThing(kind, x, y, h, g);
            return a < 0 ? no(a, a) : a;
        }

        int put(int what, int v) {
            int was;
            if (what == 0 && in(v, 0, 99)) {
                was = year;
                year = v;
            } else if (what == 1 && in(v, 0, 99)) {
                was = mist;
                mist = v;
            } else if (what == 2 && in(v, 0, 3)) {
                was = wide;
                wide = v;
            } else if (what == 3 && in(v, 1, 10)) {
                was = truth;
                truth = v;
            } else {
                was = bad();
            }
            return was;
        }

        int work(int t, boolean d) {
            if (!isThing(t) || things.get(t).kind == 0) {
                return bad();
            }
            if (things.get(t).done == d) {
                return no(-3, -3);
            }
            things.get(t).done = d;
            return 1;
        }

        int cost(int t, int v) {
            if (!isThing(t) || !in(v, 0, 99)) {
                return bad();
            }
            int was = things.get(t).cost;
            things.get(t).cost = v;
            return was;
        }

        int high(int t) {
            return isThing(t) ? things.get(t).high(year) : bad();
        }

        boolean hides(Hill a, Hill b, int x, int y, int high) {
            long dx = b.x - a.x, dy = b.y - a.y, d = dx * dx + dy * dy;
            long px = x - a.x, py = y - a.y, along = px * dx + py * dy;
            return along > 0 && along < d
                    && Math.abs(px * dy - py * dx) <= wide * Math.max(Math.abs(dx), Math.abs(dy))
                    && high * d > a.height * d + (b.height - a.height) * along;
        }

        boolean open(Hill a, Hill b, int byYear, int byMist) {
            if (a.height < byMist || b.height < byMist) {
                return false;
            }
            for (Hill c : hills) {
                if (c != a && c != b && hides(a, b, c.x, c.y, c.height)) {
                    return false;
                }
            }
            for (Thing t : things) {
                if (hides(a, b, t.x, t.y, t.high(byYear))) {
                    return false;
                }
            }
            return true;
        }

        int seen(int a, int set, int byYear, int byMist) {
            int bits = 0;
            for (int b = 0; b < hills.size(); b++) {
                if (b != a && (set >> b & 1) == 1 && open(hills.get(a), hills.get(b), byYear, byMist)) {
                    bits |= 1 << b;
                }
            }
            return bits;
        }

        boolean isLawful(int set, int byYear, int byMist) {
            for (int a = 0; a < hills.size(); a++) {
                if ((set >> a & 1) == 1 && Integer.bitCount(seen(a, set, byYear, byMist)) != 1) {
                    return false;
                }
            }
            return true;
        }

        boolean isLawful(int set) {
            return isLawful(set, year, mist);
        }

        List<Integer> lawfulSets(int byMist) {
            int[] views = new int[hills.size()];
            for (int a = 0; a < views.length; a++) {
                views[a] = seen(a, -1, year, byMist);
            }
            List<Integer> all = new ArrayList<>();
            for (int set = 0; set < 1 << hills.size(); set++) {
                boolean good = true;
                for (int a = 0; a < views.length; a++) {
                    good &= (set >> a & 1) == 0 || Integer.bitCount(views[a] & set) == 1;
                }
                if (good) {
                    all.add(set);
                }
            }
            return all;
        }

        int sight(int a, int b) {
            if (!isHill(a) || !isHill(b) || a == b) {
                return bad();
            }
            boolean there = open(hills.get(a), hills.get(b), year, mist);
            if (there != open(hills.get(b), hills.get(a), year, mist)) {
                throw new IllegalStateException("not alike from both ends");
            }
            return there ? 1 : 0;
        }

        void fraction(BigInteger a, BigInteger b) {
            BigInteger g = a.gcd(b);
            above = a.divide(g);
            below = b.divide(g);
        }

        int clear(int a, int b, int thing) {
            if (!isHill(a) || !isHill(b) || !isThing(thing)) {
                return bad();
            }
            Hill s = hills.get(a), e = hills.get(b);
            Thing t = things.get(thing);
            long dx = e.x - s.x, dy = e.y - s.y, d = dx * dx + dy * dy;
            long along = (t.x - s.x) * dx + (t.y - s.y) * dy;
            if (!(along > 0 && along < d)) {
                return no(-3, -3);
            }
            fraction(BigInteger.valueOf(s.height * d + (e.height - s.height) * along - t.high(year) * d), BigInteger.valueOf(d));
            return 1;
        }

        int type(long v, int n) {
            if (!in(n, 1, 8)) {
                return bad();
            }
            if (text.length() + n > 240) {
                return no(-4, -4);
            }
            byte[] all = BigInteger.valueOf(v).toByteArray();
            for (int i = n; i >= 1; i--) {
                int b = i <= all.length ? all[all.length - i] & 255 : v < 0 ? 255 : 0;
                text.append((char) b);
            }
            return text.length();
        }

        int clearText() {
            int had = text.length();
            text.setLength(0);
            return had;
        }

        int land() {
            List<String> tokens = new ArrayList<>();
            List<Integer> places = new ArrayList<>();
            Matcher match = Pattern.compile("[a-z]+|[0-9]+|[^ ]", Pattern.DOTALL).matcher(text);
            while (match.find()) {
                tokens.add(match.group());
                places.add(match.start());
            }
            Map<String, Integer> many = Map.of("hill", 3, "stone", 3, "wood", 4, "pine", 4, "hedge", 4, "topped", 4,
                    "wall", 3, "year", 1, "mist", 1, "wide", 1);
            List<List<String>> items = new ArrayList<>();
            int i = 0;
            while (i < tokens.size()) {
                Integer n = many.get(tokens.get(i));
                if (n == null) {
                    return -10 - places.get(i);
                }
                for (int k = 1; k <= n + 1; k++) {
                    if (i + k >= tokens.size()) {
                        return -10 - text.length();
                    }
                    if (!tokens.get(i + k).matches(k <= n ? "[0-9]{1,2}" : ";")) {
                        return -10 - places.get(i + k);
                    }
                }
                items.add(tokens.subList(i, i + n + 1));
                i += n + 2;
            }
            return tellAll(items);
        }

        int tellAll(List<List<String>> items) {
            Model fresh = new Model();
            List<String> kinds = List.of("stone", "wood", "pine", "hedge", "topped", "wall");
            List<String> dials = List.of("year", "mist", "wide");
            for (int i = 0; i < items.size(); i++) {
                List<String> item = items.get(i);
                int[] n = new int[4];
                for (int k = 1; k < item.size(); k++) {
                    n[k - 1] = Integer.parseInt(item.get(k));
                }
                int answer = item.get(0).equals("hill") ? fresh.tryHill(n[0], n[1], n[2])
                        : kinds.contains(item.get(0)) ? fresh.tryThing(kinds.indexOf(item.get(0)), n[0], n[1], n[2], n[3])
                        : fresh.put(dials.indexOf(item.get(0)), n[0]);
                if (answer < 0) {
                    return -1000 - i;
                }
            }
            hills = fresh.hills;
            things = fresh.things;
            year = fresh.year;
            mist = fresh.mist;
            wide = fresh.wide;
            return items.size();
        }

        int sees(int hill, int set) {
            return isHill(hill) && isSet(set) ? seen(hill, set, year, mist) : bad();
        }

        int judge(int set, int what) {
            if (!isSet(set) || !in(what, 0, 1)) {
                return bad();
            }
            for (int a = 0; a < hills.size(); a++) {
                int n = Integer.bitCount(seen(a, set, year, mist));
                if ((set >> a & 1) == 1 && n != 1) {
                    return what == 0 ? a : n;
                }
            }
            return -1;
        }

        int most(int hill, int what) {
            if (hill != -1 && !isHill(hill) || !in(what, 0, 1)) {
                return bad();
            }
            int best = -1;
            for (int set : lawfulSets(mist)) {
                if ((hill == -1 || (set >> hill & 1) == 1) && (best < 0 || Integer.bitCount(set) > Integer.bitCount(best))) {
                    best = set;
                }
            }
            return best < 0 ? no(-3, -3) : what == 0 ? Integer.bitCount(best) : best;
        }

        int lawful(int n) {
            if (!in(n, -1, 10)) {
                return bad();
            }
            return (int) lawfulSets(mist).stream().filter(s -> n == -1 || Integer.bitCount(s) == n).count();
        }

        int years(int set) {
            if (!isSet(set)) {
                return bad();
            }
            int bits = 0;
            for (int k = 0; k < 10; k++) {
                if (isLawful(set, Math.min(99, year + k), mist)) {
                    bits |= 1 << k;
                }
            }
            return bits;
        }

        int mist(int hour, int v) {
            if (!in(hour, 0, 11) || !in(v, 0, 99)) {
                return bad();
            }
            int was = mists[hour];
            mists[hour] = v;
            return was;
        }

        int hours(int set) {
            if (!isSet(set)) {
                return bad();
            }
            int bits = 0;
            for (int k = 0; k < 12; k++) {
                if (isLawful(set, year, mists[k])) {
                    bits |= 1 << k;
                }
            }
            return bits;
        }

        int works(int set, int what, boolean byCost) {
            if (!isSet(set) || !in(what, 0, 1)) {
                return bad();
            }
            int best = -1, least = 0;
            for (int w = 0; w < 1 << things.size(); w++) {
                boolean may = true;
                int sum = 0;
                for (int t = 0; t < things.size(); t++) {
                    if ((w >> t & 1) == 1) {
                        may &= things.get(t).kind != 0 && !things.get(t).done;
                        sum += byCost ? things.get(t).cost : 1;
                    }
                }
                if (!may || best >= 0 && sum >= least) {
                    continue;
                }
                change(w, true);
                if (isLawful(set)) {
                    best = w;
                    least = sum;
                }
                change(w, false);
            }
            return best < 0 ? -1 : what == 0 ? least : best;
        }

        void change(int w, boolean done) {
            for (int t = 0; t < things.size(); t++) {
                if ((w >> t & 1) == 1) {
                    things.get(t).done = done;
                }
            }
        }

        int fewest(int set, int what) {
            return works(set, what, false);
        }

        int cheapest(int set, int what) {
            return works(set, what, true);
        }

        int tower(int hill) {
            if (!isHill(hill)) {
                return bad();
            }
            int own = hills.get(hill).height, answer = -1;
            for (int h = 0; h <= 99 && answer < 0; h++) {
                hills.get(hill).height = h;
                if (seen(hill, -1, year, mist) == ((1 << hills.size()) - 1 & ~(1 << hill))) {
                    answer = h;
                }
            }
            hills.get(hill).height = own;
            return answer;
        }

        static boolean first(List<Integer> a, List<Integer> b) {
            for (int i = 0; i < a.size(); i++) {
                if (!a.get(i).equals(b.get(i))) {
                    return a.get(i) < b.get(i);
                }
            }
            return false;
        }

        /** Behind one hour more: of each SET the first row that leads to it; a SET may stay if idle. */
        Map<Integer, List<Integer>> oneHour(Map<Integer, List<Integer>> now, List<Integer> sets, boolean idle) {
            Map<Integer, List<Integer>> next = new HashMap<>();
            for (List<Integer> row : now.values()) {
                int s = row.get(row.size() - 1);
                for (int t : sets) {
                    int n = Integer.bitCount(s ^ t);
                    if (n <= 2 && (n > 0 || idle)) {
                        List<Integer> longer = new ArrayList<>(row);
                        longer.add(t);
                        if (!next.containsKey(t) || first(longer, next.get(t))) {
                            next.put(t, longer);
                        }
                    }
                }
            }
            return next;
        }

        int row(int from, int to, int i) {
            if (!isSet(from) || !isSet(to) || i < -1) {
                return no(-2, -10);
            }
            if (!isLawful(from) || !isLawful(to)) {
                return no(-3, -20);
            }
            List<Integer> sets = lawfulSets(mist);
            Map<Integer, List<Integer>> now = new HashMap<>();
            now.put(from, List.of(from));
            Set<Integer> been = new HashSet<>(now.keySet());
            while (!now.containsKey(to)) {
                now = oneHour(now, sets, false);
                now.keySet().removeAll(been);
                if (now.isEmpty()) {
                    return -6;
                }
                been.addAll(now.keySet());
            }
            List<Integer> row = now.get(to);
            return i == -1 ? row.size() - 1 : i >= row.size() ? -5 : row.get(i);
        }

        Set<Integer> behind(int from, int n) {
            List<Integer> sets = lawfulSets(mist);
            Set<Integer> now = new HashSet<>(List.of(from));
            for (int hour = 0; hour < n; hour++) {
                Set<Integer> next = new HashSet<>();
                for (int s : now) {
                    for (int t : sets) {
                        if (Integer.bitCount(s ^ t) <= 2) {
                            next.add(t);
                        }
                    }
                }
                if (next.equals(now)) {
                    break;
                }
                now = next;
            }
            return now;
        }

        int reach(int from, int n) {
            if (!isSet(from) || !in(n, 0, 99)) {
                return bad();
            }
            return isLawful(from) ? behind(from, n).size() : no(-3, -3);
        }

        int words(int from, int town, int n) {
            if (!isSet(from) || !isHill(town) || !in(n, 0, 6)) {
                return bad();
            }
            if (!isLawful(from)) {
                return no(-3, -3);
            }
            int sees = seen(town, -1, year, mist);
            Set<Integer> views = new HashSet<>();
            for (int s : behind(from, n)) {
                views.add(s & sees | s & 1 << town);
            }
            return views.size();
        }

        int byMists(int from, int to, int i) {
            if (!isSet(from) || !isSet(to) || !in(i, -1, 11)) {
                return no(-2, -10);
            }
            if (!isLawful(from, year, mists[0])) {
                return no(-3, -20);
            }
            Map<Integer, List<Integer>> now = new HashMap<>();
            now.put(from, List.of(from));
            for (int hour = 0; hour < 12; hour++) {
                if (hour > 0) {
                    now = oneHour(now, lawfulSets(mists[hour]), true);
                }
                if (now.containsKey(to)) {
                    return i == -1 ? hour : i > hour ? -5 : now.get(to).get(i);
                }
            }
            return -6;
        }

        int letter(int n) {
            if (!in(n, 0, 9)) {
                return bad();
            }
            if (word.size() == 8) {
                return no(-4, -4);
            }
            word.add(n);
            return word.size();
        }

        int unword() {
            int had = word.size();
            word.clear();
            return had;
        }

        int toldIn(int from, int town) {
            if (!isSet(from) || !isHill(town)) {
                return no(-2, -10);
            }
            if (!isLawful(from)) {
                return no(-3, -20);
            }
            int sees = seen(town, -1, year, mist) | 1 << town;
            List<Integer> sets = lawfulSets(mist);
            Set<List<Integer>> now = new HashSet<>();
            now.add(List.of(from, readOn(0, from & sees)));
            Set<List<Integer>> been = new HashSet<>(now);
            for (int hour = 0; !now.isEmpty(); hour++) {
                Set<List<Integer>> next = new HashSet<>();
                for (List<Integer> state : now) {
                    if (state.get(1) == word.size()) {
                        return hour;
                    }
                    for (int t : sets) {
                        if (Integer.bitCount(t ^ state.get(0)) <= 2) {
                            next.add(List.of(t, readOn(state.get(1), t & sees)));
                        }
                    }
                }
                next.removeAll(been);
                been.addAll(next);
                now = next;
            }
            return -1;
        }

        int readOn(int read, int fires) {
            return read < word.size() && word.get(read) == Integer.bitCount(fires) ? read + 1 : read;
        }

        int report(int hill, int n) {
            if (!isHill(hill) || !in(n, -1, 9)) {
                return no(-2, -10);
            }
            int was = hills.get(hill).report;
            hills.get(hill).report = n;
            return was;
        }

        int blame(int hill, int v) {
            if (!isHill(hill) || !in(v, 0, 9)) {
                return bad();
            }
            int was = hills.get(hill).blame;
            hills.get(hill).blame = v;
            return was;
        }

        int lying(int set, int hill) {
            int n = 0;
            for (int k = 0; k < hills.size(); k++) {
                int told = hills.get(k).report;
                n += told >= 0 && told != Integer.bitCount(seen(k, set | 1 << hill, year, mist)) ? 1 : 0;
            }
            return n;
        }

        int theseOf(int set) {
            int bits = 0;
            for (int a = 0; a < hills.size(); a++) {
                if ((set >> a & 1) == 0 && lying(set, a) == 0) {
                    bits |= 1 << a;
                }
            }
            return bits;
        }

        int without(int set) {
            return !isSet(set) ? bad() : !isLawful(set) ? no(-3, -3) : theseOf(set);
        }

        int chance(int set, int hill) {
            if (!isSet(set) || !isHill(hill)) {
                return bad();
            }
            if (!isLawful(set)) {
                return no(-3, -3);
            }
            int these = theseOf(set), sum = 0;
            for (int a = 0; a < hills.size(); a++) {
                sum += (these >> a & 1) * hills.get(a).blame;
            }
            if (sum == 0) {
                return no(-3, -3);
            }
            fraction(BigInteger.valueOf((these >> hill & 1) * hills.get(hill).blame), BigInteger.valueOf(sum));
            return 1;
        }

        int lies(int set, int hill) {
            if (!isSet(set) || !isHill(hill) || (set >> hill & 1) == 1) {
                return bad();
            }
            if (!isLawful(set)) {
                return no(-3, -3);
            }
            BigInteger all = BigInteger.ZERO, own = BigInteger.ZERO;
            for (int a = 0; a < hills.size(); a++) {
                if ((set >> a & 1) == 1) {
                    continue;
                }
                int lie = lying(set, a), told = count(3);
                BigInteger w = BigInteger.valueOf(hills.get(a).blame)
                        .multiply(BigInteger.valueOf(truth).pow(told - lie))
                        .multiply(BigInteger.valueOf(10 - truth).pow(lie));
                all = all.add(w);
                own = a == hill ? w : own;
            }
            if (all.signum() == 0) {
                return no(-3, -3);
            }
            fraction(own, all);
            return 1;
        }

        int tell(int hour, int hill, int how) {
            if (!in(hour, 0, 11) || !in(how, 0, 1) || hill == -1 && how != 0 || hill != -1 && !isHill(hill)) {
                return bad();
            }
            nightHill[hour] = hill;
            nightHow[hour] = how;
            return 1;
        }

        int night(int set, int what) {
            if (!isSet(set) || !in(what, 0, 2)) {
                return bad();
            }
            List<Boolean> good = new ArrayList<>();
            int lit = set;
            for (int hour = 0; hour < 12; hour++) {
                int h = nightHill[hour];
                if (isHill(h)) {
                    if ((lit >> h & 1) == nightHow[hour]) {
                        return no(-3, -3);
                    }
                    lit = nightHow[hour] == 1 ? lit | 1 << h : lit & ~(1 << h);
                }
                good.add(isLawful(lit, year, mists[hour]));
            }
            return what == 0 ? good.indexOf(false) : what == 1 ? (int) good.stream().filter(g -> g).count() : lit;
        }

        long part(int what) {
            return what == 0 ? above.longValueExact() : what == 1 ? below.longValueExact() : no(-2, -1000000);
        }

        int image(int i) {
            if (!in(i, 0, 1)) {
                return bad();
            }
            images[i] = new Model();
            images[i].takeFrom(this);
            return 1;
        }

        int from(int i) {
            if (!in(i, 0, 1)) {
                return bad();
            }
            if (images[i] == null) {
                return no(-3, -3);
            }
            takeFrom(images[i]);
            return 1;
        }

        int status(int what) {
            return in(what, 0, 2) ? refused[what] : no(-2, -1);
        }

        int count(int what) {
            switch (what) {
                case 0: return hills.size();
                case 1: return things.size();
                case 2: return text.length();
                case 3: return (int) hills.stream().filter(h -> h.report >= 0).count();
                case 4: return word.size();
                default: return bad();
            }
        }

        long digest() {
            List<Long> all = new ArrayList<>();
            for (int i = 0; i < 5; i++) {
                all.add((long) count(i));
            }
            for (Hill h : hills) {
                for (int v : new int[] {h.x, h.y, h.height, h.report, h.blame}) {
                    all.add((long) v);
                }
            }
            for (Thing t : things) {
                for (int v : new int[] {t.kind, t.x, t.y, t.h, t.g, t.done ? 1 : 0, t.cost}) {
                    all.add((long) v);
                }
            }
            for (int v : new int[] {year, mist, wide, truth}) {
                all.add((long) v);
            }
            for (int v : mists) {
                all.add((long) v);
            }
            for (int v : word) {
                all.add((long) v);
            }
            for (int i = 0; i < 12; i++) {
                all.add((long) nightHill[i]);
                all.add((long) nightHow[i]);
            }
            all.add(above.longValueExact());
            all.add(below.longValueExact());
            long h = 619;
            for (long v : all) {
                h = 31 * h + v;
            }
            return h;
        }
    }
}
