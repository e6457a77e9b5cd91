import java.io.IOException;
import java.nio.charset.StandardCharsets;
import java.nio.file.Files;
import java.nio.file.Path;
import java.util.Map;
import java.util.TreeMap;
import java.util.regex.Matcher;
import java.util.regex.Pattern;

/**
 * Tests that are told by the document's own words: each one quotes the words that it holds the program to, so that
 * words which no test quotes, and quotes that no longer stand in the document, are found.
 */
final class Sentences {
    static final int TERMS = 0, BIG = Integer.MAX_VALUE, SMALL = Integer.MIN_VALUE;
    private static final int PROMISES = 42;
    private static final String END_OF_TERMS = "Ahead of the calls";

    /** A call on an object; its answer. */
    interface Call {
        long on(TwinFires x);
    }

    private final Map<Integer, String> texts = new TreeMap<>();
    private final Map<Integer, boolean[]> quoted = new TreeMap<>();
    private int section;
    private String words = "";
    private int looked = 1;
    private int wrong;

    /** Where there is no document to look at, the tests are held all the same, without their quotes. */
    Sentences(Path document) throws IOException {
        if (!Files.isReadable(document)) {
            System.out.println("no " + document + ": quotes are not looked at");
            return;
        }
        String text = Files.readString(document, StandardCharsets.UTF_8);
        for (String part : text.split("(?m)^## ")) {
            Matcher promise = Pattern.compile("^Promise (\\d+): .*").matcher(part);
            if (part.startsWith("Terms\n")) {
                String body = plain(part.substring("Terms\n".length()));
                keepText(TERMS, body.substring(0, body.indexOf(END_OF_TERMS)));
            } else if (promise.find()) {
                String body = plain(part.substring(promise.end()));
                keepText(Integer.parseInt(promise.group(1)), body.replaceFirst("^`[^`]*`: ", ""));
            }
        }
        if (texts.size() != PROMISES + 1) {
            fail("the document has " + texts.size() + " parts that tell");
        }
    }

    private static String plain(String part) {
        return part.replaceAll("```(text)?", " ").replaceAll("\\s+", " ").trim();
    }

    private void keepText(int part, String text) {
        texts.put(part, text);
        quoted.put(part, new boolean[text.length()]);
    }

    /** The words that the tests behind this hold the program to. */
    void says(int part, String quote) {
        endOfWords();
        section = part;
        words = quote;
        looked = 0;
        if (texts.isEmpty()) {
            return;
        }
        String text = texts.getOrDefault(part, "");
        int at = text.indexOf(quote);
        if (at < 0 || text.indexOf(quote, at + 1) >= 0) {
            fail(at < 0 ? "these words are not there" : "these words are there twice");
            return;
        }
        for (int i = at; i < at + quote.length(); i++) {
            quoted.get(part)[i] = true;
        }
    }

    private void endOfWords() {
        if (looked == 0) {
            fail("nothing was looked at");
        }
    }

    private void fail(String what) {
        wrong++;
        System.out.println((section == TERMS ? "terms" : "promise " + section) + ", '" + words + "': " + what);
    }

    void due(String what, long got, long want) {
        looked++;
        if (got != want) {
            fail(what + " answered " + got + ", due is " + want);
        }
    }

    /** A call that changes nothing at all. */
    void asks(String what, TwinFires x, Call call, long want) {
        long digest = x.digest();
        takes(what, x, call, want);
        due(what + ", digest", x.digest(), digest);
    }

    /** A call that is not refused. */
    void takes(String what, TwinFires x, Call call, long want) {
        int[] status = statusOf(x);
        due(what, call.on(x), want);
        for (int i = 0; i < status.length; i++) {
            due(what + ", status " + i, x.status(i), status[i]);
        }
    }

    /** A call that changes nothing but STATUS, and there one of three, by one. */
    void refuses(String what, TwinFires x, Call call, int want, int reason) {
        long digest = x.digest();
        int[] status = statusOf(x);
        due(what, call.on(x), want);
        for (int i = 0; i < status.length; i++) {
            due(what + ", status " + i, x.status(i), status[i] + (i == TwinFires.BAD - reason ? 1 : 0));
        }
        due(what + ", digest", x.digest(), digest);
    }

    void bad(String what, TwinFires x, Call call) {
        refuses(what, x, call, -2, TwinFires.BAD);
    }

    void no(String what, TwinFires x, Call call) {
        refuses(what, x, call, -3, TwinFires.NO);
    }

    void full(String what, TwinFires x, Call call) {
        refuses(what, x, call, -4, TwinFires.FULL);
    }

    private static int[] statusOf(TwinFires x) {
        return new int[] {x.status(0), x.status(1), x.status(2)};
    }

    /** Numbers that are not least .. greatest: the next ones, and the last ones that there are. */
    static int[] outside(int least, int greatest) {
        return new int[] {least - 1, greatest + 1, SMALL, BIG};
    }

    /** How many were wrong; words that no test quotes are, too. */
    int end() {
        endOfWords();
        for (Map.Entry<Integer, String> part : texts.entrySet()) {
            StringBuilder rest = new StringBuilder();
            for (int i = 0; i < part.getValue().length(); i++) {
                rest.append(quoted.get(part.getKey())[i] ? '|' : part.getValue().charAt(i));
            }
            for (String left : rest.toString().split("\\|+")) {
                if (Pattern.compile("[A-Za-z0-9]").matcher(left).find()) {
                    section = part.getKey();
                    words = left;
                    fail("no test has these words");
                }
            }
        }
        return wrong;
    }
}
