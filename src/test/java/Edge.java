import java.util.Set;
import java.util.TreeSet;
import java.util.function.BooleanSupplier;
import java.util.function.LongSupplier;

/** A test of its own for each sentence of the document that names an edge; the sentence is its name. */
final class Edge {
    static final int NONE = KiteVote.NONE;
    static final int HIDDEN = KiteVote.HIDDEN;
    static final int PLACE = 0;
    static final int WEIGHT = 1;
    static final int LINE = 2;
    static final int PAID = 3;
    static final int HEIGHT = 4;
    static final int OPINION = 5;
    static final int WAX = 6;
    static final int CLAN = 7;
    static final int MODE = 8;
    static final int WORN = 9;
    static final int KNOTS = 10;
    static final int FLIES = 11;

    private static final Set<String> NAMES = new TreeSet<>();

    private Edge() {
    }

    static Set<String> names() {
        return NAMES;
    }

    static void test(String sentence, Runnable body) {
        Due.part(sentence);
        Due.is("a name that no other test has", NAMES.add(sentence), true);
        int before = Due.looks();
        try {
            body.run();
        } catch (RuntimeException | StackOverflowError e) {
            Due.is("a call that threw " + e, 1, 0);
        }
        Due.is("a test that looks at something", Due.looks() > before, true);
    }

    /** A call that answers so, and changes nothing that shows. */
    static void refused(KiteVote x, String call, LongSupplier answer, long want) {
        String before = shows(x);
        Due.is(call, answer.getAsLong(), want);
        String behind = shows(x);
        Due.is(call + " left " + behind + " of " + before, behind.equals(before), true);
    }

    static void denied(KiteVote x, String call, BooleanSupplier answer) {
        refused(x, call, () -> answer.getAsBoolean() ? 1 : 0, 0);
    }

    /** All that shows without going ahead: some sixty calls for two kites. */
    static String shows(KiteVote x) {
        StringBuilder s = new StringBuilder();
        for (int what = 0; what < 13; what++) {
            s.append(x.count(what)).append(' ');
        }
        for (int what = 0; what < 4; what++) {
            s.append(x.law(what)).append(' ');
        }
        s.append(x.fault(0)).append(' ').append(x.fault(1)).append(' ').append(x.wind(0, 0)).append(" |");
        for (int kite = 0; kite < x.count(0); kite++) {
            for (int what = 0; what < 12; what++) {
                s.append(' ').append(x.kite(kite, what));
            }
            s.append(" |");
        }
        s.append(' ').append(x.lift(0)).append(' ').append(x.wear(0, 1));
        for (int i = 0; i < x.count(10); i++) {
            s.append(' ').append(x.book(i));
        }
        return s.toString();
    }

    static void field(String text, int fault) {
        Due.is("fault(0) of '" + text + "'", Due.fault(0, text), fault);
    }

    static void law(String text, int fault) {
        Due.is("fault(1) of '" + text + "'", Due.fault(1, text), fault);
    }

    static KiteVote on(String field) {
        return Due.on(field);
    }

    /** Where these laws hold; null: none. */
    static KiteVote on(String field, String lift, String wear) {
        KiteVote x = Due.on(field);
        if (lift != null) {
            Due.rule(x, 0, lift);
        }
        if (wear != null) {
            Due.rule(x, 1, wear);
        }
        return x;
    }

    /** Kite 0 was cut in the second minute, kite 1 flies at 5; seven minutes are left. */
    static KiteVote cutOne() {
        KiteVote x = on("fb9;as3;kw3h5;kw3h5x9");
        x.go(2);
        Due.is("kite 0 flies", x.kite(0, FLIES), 0);
        Due.is("kite 1 flies", x.kite(1, FLIES), 1);
        return x;
    }

    /** Both kites were cut in the second minute; seven minutes are left. */
    static KiteVote nobody() {
        KiteVote x = on("fb9;as3;kw3h5;kw3h5", null, "y:9");
        x.go(2);
        Due.is("nobody flies", x.count(1), 0);
        return x;
    }

    static void row(KiteVote x, int what, int... values) {
        for (int kite = 0; kite < values.length; kite++) {
            Due.is("kite(" + kite + ", " + what + ")", x.kite(kite, what), values[kite]);
        }
    }
}
