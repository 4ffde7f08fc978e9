import java.util.Set;
import java.util.TreeSet;

/** What the tests share: counting, and feeding a text to a KiteVote. */
final class Due {
    private static int right = 0;
    private static int wrong = 0;
    private static String part = "";
    private static final Set<String> WRONG_PARTS = new TreeSet<>();

    private Due() {
    }

    static void part(String name) {
        part = name;
    }

    static void is(String call, long got, long want) {
        if (got == want) {
            right++;
            return;
        }
        wrong++;
        WRONG_PARTS.add(part);
        System.out.println(part + ": " + call + " answered " + got + ", due is " + want);
    }

    static void is(String call, boolean got, boolean want) {
        is(call, got ? 1 : 0, want ? 1 : 0);
    }

    /** How many answers were looked at so far. */
    static int looks() {
        return right + wrong;
    }

    static Set<String> wrongParts() {
        return WRONG_PARTS;
    }

    /** The closing line that .ci/run adds up, and the exit code. */
    static void close() {
        System.out.println(right + " right, " + wrong + " wrong");
        System.exit(wrong == 0 && right > 0 ? 0 : 1);
    }

    static int[] words(String text, int from) {
        int[] words = new int[5];
        for (int i = 0; i < 20; i++) {
            int b = from + i < text.length() ? text.charAt(from + i) & 255 : 0;
            words[i / 4] |= b << (24 - 8 * (i % 4));
        }
        return words;
    }

    static void feed(KiteVote x, String text) {
        for (int from = 0; from < text.length(); from += 20) {
            int[] w = words(text, from);
            x.feed(w[0], w[1], w[2], w[3], w[4]);
        }
    }

    static KiteVote on(String field) {
        KiteVote x = new KiteVote();
        feed(x, field);
        if (x.text(0) == KiteVote.NONE) {
            is("text(0) of " + field, KiteVote.NONE, 0);
        }
        return x;
    }

    /** Tells a law and lets it hold (0 lift, 1 wear). */
    static void rule(KiteVote x, int what, String law) {
        feed(x, law);
        int number = x.text(1);
        is("text(1) of " + law + " is a law", number >= 0, true);
        is("holds of " + law, x.holds(what, number), true);
    }

    static int fault(int sort, String text) {
        KiteVote x = new KiteVote();
        feed(x, text);
        return x.fault(sort);
    }

    static String pad(String text, int times) {
        StringBuilder s = new StringBuilder();
        for (int i = 0; i < times; i++) {
            s.append(text);
        }
        return s.toString();
    }
}
