import java.lang.reflect.InvocationTargetException;
import java.lang.reflect.Method;
import java.lang.reflect.Modifier;
import java.util.NoSuchElementException;
import java.util.function.LongSupplier;

/** The edges that promises 1 to 47 name: what each call refuses, and that it changes nothing then. */
public final class PromiseEdgeTests {
    private static final int NONE = KiteVote.NONE;
    private static final int HIDDEN = KiteVote.HIDDEN;
    private static final int LEAST = Integer.MIN_VALUE;
    private static final int MOST = Integer.MAX_VALUE;

    private PromiseEdgeTests() {
    }

    public static void main(String[] args) {
        tests();
        Due.close();
    }

    static void tests() {
        newObject();
        tape();
        texts();
        told();
        winds();
        nowRefused();
        modeAndTalk();
        waxAndMove();
        splices();
        goes();
        sitAndUndo();
        aheadRefused();
        crossRefused();
        whoDecides();
        duelsRefused();
        clansRefused();
        seenRefused();
        imagesRefused();
        counts();
        nothingChanged();
        wild();
    }

    /** Two that fly, in places of their own, as high as they will be at the BELL. */
    private static KiteVote two() {
        return Edge.on("fb9;as3;kw3h5;kp5w3h7");
    }

    private static void none(String call, LongSupplier answer) {
        Due.is(call, answer.getAsLong(), NONE);
    }

    private static void newObject() {
        Edge.test("1: No FIELD", () -> {
            KiteVote x = new KiteVote();
            int[] counts = {0, 0, 0, 0, 0, NONE, NONE, 0, 0, 0, 0, 0, 0};
            for (int i = 0; i < counts.length; i++) {
                Due.is("count(" + i + ")", x.count(i), counts[i]);
            }
            none("law(0)", () -> x.law(0));
            none("result()", x::result);
        });
        Edge.test("1: each object has a FIELD of its own", () -> {
            KiteVote x = two();
            KiteVote y = new KiteVote();
            Due.is("count(0) of another", y.count(0), 0);
            Due.is("count(0)", x.count(0), 2);
        });
    }

    // ---- 2, 3: the TAPE

    private static int feed(KiteVote x, int... words) {
        return x.feed(words[0], words[1], words[2], words[3], words[4]);
    }

    private static KiteVote fed(int bytes) {
        KiteVote x = new KiteVote();
        Due.feed(x, Due.pad(" ", bytes));
        Due.is("count(4)", x.count(4), bytes);
        return x;
    }

    private static void tape() {
        Edge.test("2: of each number the highest first, the numbers in their order", () -> {
            KiteVote x = new KiteVote();
            int[] w = Due.words("kh1;kh2;kh3;kh4;kh5 ", 0);
            Due.is("feed", feed(x, w), 20);
            Due.is("text(0)", x.text(0), 5);
            Edge.row(x, Edge.HEIGHT, 1, 2, 3, 4, 5);
        });
        Edge.test("2: bytes of 0 are left out", () -> {
            KiteVote x = new KiteVote();
            Due.is("feed of 0", x.feed(0, 0, 0, 0, 0), 0);
            Due.is("feed of k;k", x.feed('k' << 24, 0, ';' << 8, 0, 'k'), 3);
            Due.is("feed of h9", x.feed('h' << 16, '9', 0, 0, 0), 5);
            Due.is("text(0)", x.text(0), 2);
            Edge.row(x, Edge.HEIGHT, 0, 9);
        });
        Edge.test("2: bytes up to 255", () -> {
            KiteVote x = new KiteVote();
            Due.is("feed(-1, ..)", x.feed(-1, 0x80000000, 0x00800000, 0x00008000, 0x00000080), 8);
            Due.is("fault(0)", x.fault(0), 0);
            Due.is("feed of most and least", x.feed(MOST, LEAST, -2, 1, 255), 8 + 4 + 1 + 4 + 1 + 1);
        });
        Edge.test("2: 240 are not more than 240", () -> {
            Due.is("twelve times twenty", feed(fed(220), 0x20202020, 0x20202020, 0x20202020, 0x20202020, 0x20202020), 240);
            Due.is("one at 239", feed(fed(239), 0, 0, 0, 0, 1), 240);
            Due.is("one at 239, first", feed(fed(239), 0x20000000, 0, 0, 0, 0), 240);
        });
        Edge.test("2: NONE: more than 240", () -> {
            for (int i = 0; i < 5; i++) {
                int[] w = new int[5];
                w[i] = 1;
                KiteVote x = fed(240);
                Edge.refused(x, "one at 240", () -> feed(x, w), NONE);
            }
            KiteVote x = fed(239);
            Edge.refused(x, "two at 239", () -> feed(x, 0x6b000000, 0, 0, 0, 0x6b), NONE);
            KiteVote y = fed(221);
            Edge.refused(y, "twenty at 221", () -> feed(y, -1, -1, -1, -1, -1), NONE);
            Due.is("then one", feed(y, 'k', 0, 0, 0, 0), 222);
            Due.is("text(0)", y.text(0), 1);
        });
        Edge.test("2: bytes of 0 are not too many", () -> {
            KiteVote x = fed(240);
            Due.is("none at 240", x.feed(0, 0, 0, 0, 0), 240);
            Due.is("one and zeros at 239", feed(fed(239), 0, 0x00200000, 0, 0, 0), 240);
        });
        Edge.test("2: again when the TAPE is empty", () -> {
            KiteVote x = fed(240);
            x.end(0);
            Due.is("one", feed(x, 'k', 0, 0, 0, 0), 1);
            Due.is("text(0)", x.text(0), 1);
            Due.is("one more", feed(x, 'k', 0, 0, 0, 0), 1);
        });
        Edge.test("3: its first n bytes alone", () -> {
            KiteVote x = new KiteVote();
            Due.feed(x, "kh9;kh8");
            Due.is("end(3)", x.end(3), true);
            Due.is("count(4)", x.count(4), 3);
            Due.feed(x, ";k");
            Due.is("text(0)", x.text(0), 2);
            Edge.row(x, Edge.HEIGHT, 9, 0);
        });
        Edge.test("3: what was behind them is no more", () -> {
            KiteVote x = new KiteVote();
            Due.feed(x, "kh35  ");
            x.end(5);
            Due.is("fault(0) behind a blank", x.fault(0), NONE);
            x.end(3);
            Due.is("text(0)", x.text(0), 1);
            Edge.row(x, Edge.HEIGHT, 3);
            Due.feed(x, "a    ");
            x.end(2);
            Due.is("fault(0) of a", x.fault(0), 2);
            x.end(1);
            Due.is("fault(0) of a", x.fault(0), 1);
            x.end(0);
            Due.is("fault(0) of nothing", x.fault(0), 0);
        });
        Edge.test("3: n 0", () -> {
            KiteVote x = fed(5);
            Due.is("end(0)", x.end(0), true);
            Due.is("count(4)", x.count(4), 0);
            Due.is("end(0) of an empty one", x.end(0), true);
        });
        Edge.test("3: n as many as there are", () -> {
            KiteVote x = fed(5);
            Due.is("end(5)", x.end(5), true);
            Due.is("count(4)", x.count(4), 5);
            Due.is("end(240)", fed(240).end(240), true);
        });
        Edge.test("3: False: n too large", () -> {
            KiteVote x = fed(5);
            Edge.denied(x, "end(6)", () -> x.end(6));
            Edge.denied(x, "end(240)", () -> x.end(240));
            Edge.denied(x, "end(most)", () -> x.end(MOST));
            KiteVote y = new KiteVote();
            Edge.denied(y, "end(1) of an empty one", () -> y.end(1));
        });
        Edge.test("3: False: n below 0", () -> {
            KiteVote x = fed(5);
            Edge.denied(x, "end(-1)", () -> x.end(-1));
            Edge.denied(x, "end(least)", () -> x.end(LEAST));
        });
    }

    // ---- 4, 5: faults and texts

    private static void texts() {
        Edge.test("4: NONE: none", () -> {
            Due.is("of a FIELD", Due.fault(0, "k"), NONE);
            Due.is("of a LAW", Due.fault(1, "y:1"), NONE);
        });
        Edge.test("4: as a FIELD (0), a LAW (1)", () -> {
            Due.is("a LAW as a FIELD", Due.fault(0, "y:1"), 0);
            Due.is("a FIELD as a LAW", Due.fault(1, "k"), 0);
        });
        Edge.test("4: of an empty TAPE", () -> {
            Due.is("fault(0)", Due.fault(0, ""), 0);
            Due.is("fault(1)", Due.fault(1, ""), 0);
        });
        Edge.test("4: of a full TAPE", () -> {
            Due.is("fault(0)", Due.fault(0, "k" + Due.pad(" ", 239)), NONE);
            Due.is("fault(0)", Due.fault(0, "a" + Due.pad(" ", 239)), 240);
            Due.is("fault(0)", Due.fault(0, "k" + Due.pad(" ", 238) + "k"), 239);
            Due.is("fault(1)", Due.fault(1, "y:" + Due.pad("1+", 119)), 240);
            Due.is("fault(1)", Due.fault(1, "y:" + Due.pad("1+", 118) + "1"), NONE);
        });
        Edge.test("4: -2: no such sort", () -> {
            KiteVote x = new KiteVote();
            Due.feed(x, "k");
            for (int sort : new int[] {-1, -2, 2, 3, LEAST, MOST}) {
                Edge.refused(x, "fault(" + sort + ")", () -> x.fault(sort), -2);
            }
        });
        Edge.test("4: a FAULT changes nothing", () -> {
            KiteVote x = two();
            Due.feed(x, "fw2;kh9;x");
            Edge.refused(x, "fault(0)", () -> x.fault(0), 8);
            Edge.refused(x, "fault(1)", () -> x.fault(1), 0);
        });
        Edge.test("5: a FIELD: how many KITES; the TAPE is empty then", () -> {
            KiteVote x = new KiteVote();
            Due.feed(x, "k;k;k;k;k;k;k;k");
            Due.is("text(0)", x.text(0), 8);
            Due.is("count(4)", x.count(4), 0);
            none("text(0) of nothing", () -> x.text(0));
        });
        Edge.test("5: a FIELD: MINUTE 0; all that was of another one is gone", () -> {
            KiteVote x = Edge.on("fw9b1m9r9;as9;as8;kw1h5o1x3g2m1;kp4h3;kp8h3");
            x.wax(0);
            x.splice(1, 2, 3);
            x.go(1);
            x.sit();
            x.see(0, 1, 1);
            x.image();
            x.go(1);
            Due.feed(x, "k;k");
            Due.is("text(0)", x.text(0), 2);
            int[] counts = {2, 2, 0, 0, 0, NONE, NONE, 0, 0, 0, 0, 0, 0};
            for (int i = 0; i < counts.length; i++) {
                Due.is("count(" + i + ")", x.count(i), counts[i]);
            }
            int[] plain = {0, 3, 40, 0, 0, 0, 0, 0, 0, 0, 0, 1};
            for (int what = 0; what < 12; what++) {
                Edge.row(x, what, plain[what], what == Edge.PLACE ? 1 : plain[what]);
            }
            Due.is("wind(0, 0)", x.wind(0, 0), 0);
            none("book(0)", () -> x.book(0));
            none("back()", x::back);
            none("undo()", x::undo);
            Due.is("weighs(0)", x.weighs(0), 1022);
            Due.is("wax(0)", x.wax(0), 1);
        });
        Edge.test("5: a FIELD: its KITES alone, though the other one had more", () -> {
            KiteVote x = Edge.on("as3;kw3h5;kw3h5x9;kp5;kp6;kp9");
            x.go(2);
            Edge.row(x, Edge.FLIES, 0, 1, 1, 1, 1);
            Due.feed(x, "k");
            x.text(0);
            Due.is("count(1)", x.count(1), 1);
            Due.is("kite(1, 0)", thrown(x, 1, 0), 1);
            none("mode(1, 1)", () -> x.mode(1, 1) ? 1 : NONE);
            Due.is("lonely()", x.lonely(), 1);
        });
        Edge.test("5: a FIELD: all that was SEEN is gone", () -> {
            KiteVote x = Edge.on("k;kp5");
            x.see(0, 9, 9);
            x.see(0, 1, 8);
            x.see(0, 9, 9);
            Due.feed(x, "fb2;k");
            x.text(0);
            Due.is("count(11)", x.count(11), 0);
            Due.is("weighs(0)", x.weighs(0), 1022);
            Due.is("see(0, 1, 0)", x.see(0, 1, 0), 1);
            Due.is("weighs(0)", x.weighs(0), 1022);
        });
        Edge.test("5: gone but LAWS, which hold, GUST", () -> {
            KiteVote x = Edge.on("k", "y:7", "y:8");
            x.gust(9);
            Due.feed(x, "k;k");
            x.text(0);
            int[] counts = {2, 2, 0, 2, 0, 0, 1, 0, 9};
            for (int i = 0; i < counts.length; i++) {
                Due.is("count(" + i + ")", x.count(i), counts[i]);
            }
            Due.is("lift(0)", x.lift(0), 7);
            Due.is("wear(0, 1)", x.wear(0, 1), 8);
        });
        Edge.test("5: a LAW: its number, from 0; the TAPE is empty then", () -> {
            KiteVote x = new KiteVote();
            for (int i = 0; i < 6; i++) {
                Due.feed(x, "y:" + (i + 1));
                Due.is("text(1)", x.text(1), i);
                Due.is("count(3)", x.count(3), i + 1);
                Due.is("count(4)", x.count(4), 0);
            }
            Due.is("count(5)", x.count(5), NONE);
            Due.is("count(6)", x.count(6), NONE);
            Due.feed(x, "k");
            x.text(0);
            for (int i = 0; i < 6; i++) {
                x.holds(0, i);
                Due.is("lift by " + i, x.lift(0), i + 1);
            }
        });
        Edge.test("5: NONE: a FAULT; the TAPE stays", () -> {
            KiteVote x = two();
            Due.feed(x, "kh9;kx");
            Edge.refused(x, "text(0)", () -> x.text(0), NONE);
            Edge.refused(x, "text(1)", () -> x.text(1), NONE);
            KiteVote y = two();
            Due.feed(y, "y:1;y:");
            Edge.refused(y, "text(1)", () -> y.text(1), NONE);
            KiteVote z = two();
            Edge.refused(z, "text(0) of nothing", () -> z.text(0), NONE);
            Edge.refused(z, "text(1) of nothing", () -> z.text(1), NONE);
        });
        Edge.test("5: NONE: no such sort; the TAPE stays", () -> {
            for (String text : new String[] {"k", "y:1"}) {
                KiteVote x = new KiteVote();
                Due.feed(x, text);
                for (int sort : new int[] {-1, 2, LEAST, MOST}) {
                    Edge.refused(x, "text(" + sort + ")", () -> x.text(sort), NONE);
                }
            }
        });
        Edge.test("5: NONE: there are six LAWS; the TAPE stays", () -> {
            KiteVote x = Edge.on("k");
            for (int i = 0; i < 6; i++) {
                Due.feed(x, "y:" + i);
                x.text(1);
            }
            Due.feed(x, "y:6");
            Due.is("fault(1)", x.fault(1), NONE);
            Edge.refused(x, "text(1)", () -> x.text(1), NONE);
            x.holds(0, 5);
            Due.is("lift by the sixth", x.lift(0), 5);
            x.end(0);
            Due.feed(x, "k;k");
            Due.is("text(0) with six LAWS", x.text(0), 2);
        });
    }

    // ---- 6 to 8

    /** 1: NoSuchElementException; 0: an answer. */
    private static int thrown(KiteVote x, int kite, int what) {
        try {
            x.kite(kite, what);
            return 0;
        } catch (NoSuchElementException e) {
            return 1;
        }
    }

    private static void told() {
        Edge.test("6: 0 PLACE .. 11 whether it flies", () -> {
            KiteVote x = Edge.on("k;kp7w8l50h33o2x6g4m2");
            int[] plain = {0, 3, 40, 0, 0, 0, 0, 0, 0, 0, 0, 1};
            int[] other = {7, 8, 50, 33, 33, 2, 6, 4, 2, 0, 0, 1};
            for (int what = 0; what < 12; what++) {
                Edge.row(x, what, plain[what], other[what]);
            }
        });
        Edge.test("6: NoSuchElementException: no such KITE", () -> {
            KiteVote x = two();
            Due.is("the last", thrown(x, 1, 0), 0);
            for (int kite : new int[] {2, 7, 8, -1, LEAST, MOST}) {
                Edge.refused(x, "kite(" + kite + ", 0)", () -> thrown(x, kite, 0), 1);
            }
            Due.is("kite(0, 0) without a FIELD", thrown(new KiteVote(), 0, 0), 1);
        });
        Edge.test("6: NoSuchElementException: no such what", () -> {
            KiteVote x = two();
            Due.is("the last", thrown(x, 0, 11), 0);
            for (int what : new int[] {12, 13, -1, LEAST, MOST}) {
                Edge.refused(x, "kite(0, " + what + ")", () -> thrown(x, 0, what), 1);
            }
        });
        Edge.test("6: of a CUT one, too", () -> {
            KiteVote x = Edge.cutOne();
            Due.is("kite(0, 1)", thrown(x, 0, 1), 0);
            Due.is("kite(0, 9)", x.kite(0, Edge.WORN), 18);
        });
        Edge.test("7: NONE: no FIELD", () -> {
            for (int what = 0; what < 4; what++) {
                Due.is("law(" + what + ")", new KiteVote().law(what), NONE);
            }
        });
        Edge.test("7: NONE: no such what", () -> {
            KiteVote x = two();
            for (int what : new int[] {-1, 4, LEAST, MOST}) {
                Edge.refused(x, "law(" + what + ")", () -> x.law(what), NONE);
            }
        });
        Edge.test("8: (NONE: none), without LAWS, too", () -> {
            KiteVote x = new KiteVote();
            Due.is("holds(0, NONE)", x.holds(0, NONE), true);
            Due.is("holds(1, NONE)", x.holds(1, NONE), true);
            x = Edge.on("as5;kw3;k", "y:9", "y:8");
            Due.is("holds(0, NONE)", x.holds(0, NONE), true);
            Due.is("lift(0)", x.lift(0), 2);
            Due.is("wear(0, 1)", x.wear(0, 1), 8);
            Due.is("holds(1, NONE)", x.holds(1, NONE), true);
            Due.is("wear(0, 1)", x.wear(0, 1), 1);
        });
        Edge.test("8: LIFT (what 0), WEAR (1): one LAW for both, too", () -> {
            KiteVote x = Edge.on("k;k", "y:7", "y:8");
            Due.is("holds(0, 1)", x.holds(0, 1), true);
            Due.is("holds(1, 1) as it is", x.holds(1, 1), true);
            Due.is("lift(0)", x.lift(0), 8);
            Due.is("wear(0, 1)", x.wear(0, 1), 8);
        });
        Edge.test("8: False: no such LAW", () -> {
            KiteVote x = Edge.on("k;k", "y:7", "y:8");
            for (int law : new int[] {2, 5, 6, -2, LEAST, MOST}) {
                Edge.denied(x, "holds(0, " + law + ")", () -> x.holds(0, law));
                Edge.denied(x, "holds(1, " + law + ")", () -> x.holds(1, law));
            }
            Due.is("without LAWS", new KiteVote().holds(0, 0), false);
        });
        Edge.test("8: False: no such what", () -> {
            KiteVote x = Edge.on("k;k", "y:7", "y:8");
            for (int what : new int[] {-1, 2, LEAST, MOST}) {
                Edge.denied(x, "holds(" + what + ", 0)", () -> x.holds(what, 0));
                Edge.denied(x, "holds(" + what + ", NONE)", () -> x.holds(what, NONE));
            }
        });
    }

    // ---- 9 to 13

    private static void winds() {
        Edge.test("9: NONE: no FIELD", () -> Due.is("wind(0, 0)", new KiteVote().wind(0, 0), NONE));
        Edge.test("9: HEIGHT 0 .. 99", () -> {
            KiteVote x = two();
            Due.is("wind(0, 0)", x.wind(0, 0), 3);
            Due.is("wind(99, 0)", x.wind(99, 0), 3);
            for (int height : new int[] {-1, 100, LEAST, MOST}) {
                Edge.refused(x, "wind(" + height + ", 0)", () -> x.wind(height, 0), NONE);
            }
        });
        Edge.test("9: MINUTE 0 .. 60, whatever the BELL is", () -> {
            KiteVote x = two();
            Due.is("wind(0, 60)", x.wind(0, 60), 3);
            for (int minute : new int[] {-1, 61, LEAST, MOST}) {
                Edge.refused(x, "wind(0, " + minute + ")", () -> x.wind(0, minute), NONE);
            }
        });
    }

    /** For each number of no KITE, and for one that is CUT. */
    private static void noSuch(String call, java.util.function.BiFunction<KiteVote, Integer, Long> answer, long want) {
        KiteVote x = two();
        for (int kite : new int[] {2, 8, -1, LEAST, MOST}) {
            Edge.refused(x, call + " of " + kite, () -> answer.apply(x, kite), want);
        }
        KiteVote y = Edge.cutOne();
        Edge.refused(y, call + " of a CUT one", () -> answer.apply(y, 0), want);
        Due.is(call + " without a FIELD", answer.apply(new KiteVote(), 0), want);
    }

    private static void nowRefused() {
        Edge.test("10: HIDDEN: no such one that flies", () -> noSuch("lift", (x, k) -> (long) x.lift(k), HIDDEN));
        Edge.test("11: NONE: no such ones that fly", () -> {
            noSuch("wear of", (x, k) -> (long) x.wear(k, 1), NONE);
            noSuch("wear by", (x, k) -> (long) x.wear(1, k), NONE);
        });
        Edge.test("11: NONE: alike", () -> {
            KiteVote x = two();
            Edge.refused(x, "wear(0, 0)", () -> x.wear(0, 0), NONE);
            Edge.refused(x, "wear(1, 1)", () -> x.wear(1, 1), NONE);
        });
        Edge.test("12: NONE: no such OPINION", () -> {
            KiteVote x = two();
            Due.is("feet(0)", x.feet(0), 36);
            Due.is("feet(2)", x.feet(2), 0);
            for (int opinion : new int[] {-1, 3, LEAST, MOST}) {
                Edge.refused(x, "feet(" + opinion + ")", () -> x.feet(opinion), NONE);
            }
        });
        Edge.test("12: NONE: no FIELD", () -> Due.is("feet(0)", new KiteVote().feet(0), NONE));
        Edge.test("13: NONE: no FIELD", () -> Due.is("result()", new KiteVote().result(), NONE));
    }

    // ---- 14 to 18: by hand

    private static void modeAndTalk() {
        Edge.test("14: MODE (0 .. 2)", () -> {
            KiteVote x = two();
            Due.is("mode(0, 2)", x.mode(0, 2), true);
            Due.is("mode(0, 0)", x.mode(0, 0), true);
            Due.is("mode(1, 1)", x.mode(1, 1), true);
            Edge.row(x, Edge.MODE, 0, 1);
        });
        Edge.test("14: False: no such one that flies", () -> noSuch("mode", (x, k) -> x.mode(k, 1) ? 1L : 0L, 0));
        Edge.test("14: False: out of bounds", () -> {
            KiteVote x = two();
            for (int mode : new int[] {-1, 3, LEAST, MOST}) {
                Edge.denied(x, "mode(0, " + mode + ")", () -> x.mode(0, mode));
            }
        });
        Edge.test("14: False: it is so", () -> {
            KiteVote x = Edge.on("k;km1;km2");
            for (int mode = 0; mode < 3; mode++) {
                int m = mode;
                Edge.denied(x, "mode(" + m + ", " + m + ")", () -> x.mode(m, m));
            }
        });
        Edge.test("18: TALK (0 .. 2)", () -> {
            KiteVote x = two();
            Due.is("talk(0, 2)", x.talk(0, 2), true);
            Due.is("talk(0, 0)", x.talk(0, 0), true);
            Due.is("talk(1, 1)", x.talk(1, 1), true);
            Edge.row(x, Edge.OPINION, 0, 1);
        });
        Edge.test("18: False: no such one that flies", () -> noSuch("talk", (x, k) -> x.talk(k, 1) ? 1L : 0L, 0));
        Edge.test("18: False: out of bounds", () -> {
            KiteVote x = two();
            for (int opinion : new int[] {-1, 3, LEAST, MOST}) {
                Edge.denied(x, "talk(0, " + opinion + ")", () -> x.talk(0, opinion));
            }
        });
        Edge.test("18: False: it is so", () -> {
            KiteVote x = Edge.on("k;ko1;ko2");
            for (int opinion = 0; opinion < 3; opinion++) {
                int o = opinion;
                Edge.denied(x, "talk(" + o + ", " + o + ")", () -> x.talk(o, o));
            }
        });
    }

    private static void waxAndMove() {
        Edge.test("15: how much then", () -> {
            KiteVote x = Edge.on("k;kx8");
            Due.is("wax(0)", x.wax(0), 1);
            Due.is("wax(1)", x.wax(1), 9);
            Edge.row(x, Edge.WAX, 1, 9);
        });
        Edge.test("15: NONE: no such one that flies", () -> noSuch("wax", (x, k) -> (long) x.wax(k), NONE));
        Edge.test("15: NONE: WAXED in this sitting", () -> {
            KiteVote x = Edge.on("fb1;k;k");
            x.wax(0);
            Edge.refused(x, "wax(0)", () -> x.wax(0), NONE);
            x.go(1);
            Edge.refused(x, "wax(0) a MINUTE later", () -> x.wax(0), NONE);
            x.sit();
            Due.is("wax(0) in the next one", x.wax(0), 2);
        });
        Edge.test("15: NONE: it has 9", () -> {
            KiteVote x = Edge.on("fb1;kx9;kx8");
            Edge.refused(x, "wax(0)", () -> x.wax(0), NONE);
            x.wax(1);
            x.go(1);
            x.sit();
            Edge.refused(x, "wax(1)", () -> x.wax(1), NONE);
        });
        Edge.test("16: by -1, 1: its PLACE", () -> {
            KiteVote x = two();
            Due.is("move(1, 1)", x.move(1, 1), 6);
            Due.is("move(1, -1)", x.move(1, -1), 5);
            Edge.row(x, Edge.PLACE, 0, 5);
        });
        Edge.test("16: NONE: no such one that flies", () -> noSuch("move", (x, k) -> (long) x.move(k, 1), NONE));
        Edge.test("16: NONE: no such by", () -> {
            KiteVote x = two();
            for (int by : new int[] {0, 2, -2, LEAST, MOST}) {
                Edge.refused(x, "move(1, " + by + ")", () -> x.move(1, by), NONE);
            }
        });
        Edge.test("16: NONE: no such PLACE", () -> {
            KiteVote x = Edge.on("fw2;k;k");
            Edge.refused(x, "move(0, -1)", () -> x.move(0, -1), NONE);
            Edge.refused(x, "move(1, 1)", () -> x.move(1, 1), NONE);
            KiteVote y = Edge.on("kp19");
            Edge.refused(y, "move(0, 1)", () -> y.move(0, 1), NONE);
        });
        Edge.test("16: NONE: it is held", () -> {
            KiteVote x = Edge.on("kp4;kp5;kp6");
            Edge.refused(x, "move(0, 1)", () -> x.move(0, 1), NONE);
            Edge.refused(x, "move(2, -1)", () -> x.move(2, -1), NONE);
            Due.is("move(0, -1)", x.move(0, -1), 3);
        });
    }

    private static void splices() {
        Edge.test("17: LINE of the other", () -> {
            KiteVote x = Edge.on("k;kl9");
            Due.is("splice(0, 1, 1)", x.splice(0, 1, 1), 10);
            Due.is("splice(0, 1, 39)", x.splice(0, 1, 39), 49);
            Edge.row(x, Edge.LINE, 0, 49);
        });
        Edge.test("17: NONE: no such ones that fly", () -> {
            noSuch("splice of", (x, k) -> (long) x.splice(k, 1, 1), NONE);
            noSuch("splice to", (x, k) -> (long) x.splice(1, k, 1), NONE);
        });
        Edge.test("17: NONE: alike", () -> {
            KiteVote x = two();
            Edge.refused(x, "splice(0, 0, 1)", () -> x.splice(0, 0, 1), NONE);
        });
        Edge.test("17: NONE: of two CLANS", () -> {
            KiteVote x = Edge.on("kg1;kg2;k");
            Edge.refused(x, "splice(0, 1, 1)", () -> x.splice(0, 1, 1), NONE);
            Edge.refused(x, "splice(2, 0, 1)", () -> x.splice(2, 0, 1), NONE);
        });
        Edge.test("17: n (1 ..)", () -> {
            KiteVote x = two();
            for (int n : new int[] {0, -1, LEAST}) {
                Edge.refused(x, "splice(0, 1, " + n + ")", () -> x.splice(0, 1, n), NONE);
            }
            Due.is("splice(0, 1, 1)", x.splice(0, 1, 1), 41);
        });
        Edge.test("17: NONE: so much is not left", () -> {
            KiteVote x = Edge.on("kl20h5;kl1");
            Edge.refused(x, "splice(0, 1, 16)", () -> x.splice(0, 1, 16), NONE);
            Edge.refused(x, "splice(0, 1, most)", () -> x.splice(0, 1, MOST), NONE);
            Due.is("splice(0, 1, 15)", x.splice(0, 1, 15), 16);
        });
        Edge.test("17: NONE: more than 99", () -> {
            KiteVote x = Edge.on("kl99;kl90");
            Edge.refused(x, "splice(0, 1, 10)", () -> x.splice(0, 1, 10), NONE);
            Due.is("splice(0, 1, 9)", x.splice(0, 1, 9), 99);
            Edge.refused(x, "splice(0, 1, 1)", () -> x.splice(0, 1, 1), NONE);
            Due.is("all of it back", x.splice(1, 0, 9), 99);
        });
    }

    // ---- 19 to 24

    private static void goes() {
        Edge.test("19: MINUTES (1 .. as are left): the MINUTE", () -> {
            KiteVote x = two();
            Due.is("go(1)", x.go(1), 1);
            Due.is("go(8)", x.go(8), 9);
        });
        Edge.test("19: NONE: no FIELD", () -> Due.is("go(1)", new KiteVote().go(1), NONE));
        Edge.test("19: NONE: out of bounds", () -> {
            KiteVote x = two();
            for (int n : new int[] {0, -1, 10, LEAST, MOST}) {
                Edge.refused(x, "go(" + n + ")", () -> x.go(n), NONE);
            }
            x.go(4);
            Edge.refused(x, "go(6) at 4", () -> x.go(6), NONE);
        });
        Edge.test("20: GUST (0 .. 99)", () -> {
            KiteVote x = new KiteVote();
            Due.is("gust(99)", x.gust(99), true);
            Due.is("count(8)", x.count(8), 99);
            Due.is("gust(0)", x.gust(0), true);
            Due.is("count(8)", x.count(8), 0);
        });
        Edge.test("20: False: out of bounds", () -> {
            KiteVote x = two();
            for (int v : new int[] {-1, 100, LEAST, MOST}) {
                Edge.denied(x, "gust(" + v + ")", () -> x.gust(v));
            }
        });
        Edge.test("20: False: it is so", () -> {
            KiteVote x = two();
            Edge.denied(x, "gust(0)", () -> x.gust(0));
            x.gust(7);
            Edge.denied(x, "gust(7)", () -> x.gust(7));
        });
        Edge.test("21: the MINUTE", () -> {
            KiteVote x = two();
            Due.is("gusts(1, 0)", x.gusts(1, 0), 1);
            Due.is("gusts(8, least)", x.gusts(8, Long.MIN_VALUE), 9);
        });
        Edge.test("21: NONE: no FIELD", () -> Due.is("gusts(1, 1)", new KiteVote().gusts(1, 1), NONE));
        Edge.test("21: NONE: out of bounds", () -> {
            KiteVote x = two();
            x.gust(99);
            for (int n : new int[] {0, -1, 10, LEAST, MOST}) {
                Edge.refused(x, "gusts(" + n + ", 1)", () -> x.gusts(n, 1), NONE);
            }
            x.go(9);
            Edge.refused(x, "gusts(1, 1) at the BELL", () -> x.gusts(1, 1), NONE);
        });
    }

    private static void sitAndUndo() {
        Edge.test("22: NONE: no FIELD", () -> Due.is("sit()", new KiteVote().sit(), NONE));
        Edge.test("22: NONE: not at the BELL", () -> {
            KiteVote x = two();
            Edge.refused(x, "sit()", x::sit, NONE);
            x.go(8);
            Edge.refused(x, "sit()", x::sit, NONE);
            x.go(1);
            Due.is("sit()", x.sit(), 0);
            Edge.refused(x, "sit() again", x::sit, NONE);
        });
        Edge.test("22: NONE: the BOOK is full", () -> {
            KiteVote x = Edge.on("fb1;k;k");
            for (int i = 0; i < 40; i++) {
                x.go(1);
                Due.is("sit()", x.sit(), 2);
            }
            x.go(1);
            Edge.refused(x, "sit()", x::sit, NONE);
            x.undo();
            x.undo();
            Due.is("count(10)", x.count(10), 39);
            Due.is("sit() in the last room", x.sit(), 2);
        });
        Edge.test("23: the i-th RESULT (from 0)", () -> {
            KiteVote x = Edge.on("fb1;as3;kw3h5o1;kp5");
            for (int opinion : new int[] {1, 0, 2}) {
                x.talk(0, opinion);
                x.go(1);
                x.sit();
            }
            Due.is("book(0)", x.book(0), 1);
            Due.is("book(1)", x.book(1), 0);
            Due.is("book(2)", x.book(2), 2);
            for (int i : new int[] {3, -1, 39, 40, LEAST, MOST}) {
                Edge.refused(x, "book(" + i + ")", () -> x.book(i), NONE);
            }
        });
        Edge.test("23: the 40th RESULT", () -> {
            KiteVote x = Edge.on("fb1;as3;kw3h5o1");
            for (int i = 0; i < 40; i++) {
                x.talk(0, i == 39 ? 0 : 1);
                x.go(1);
                x.sit();
            }
            Due.is("book(38)", x.book(38), 1);
            Due.is("book(39)", x.book(39), 0);
            Due.is("book(40)", x.book(40), NONE);
        });
        Edge.test("23: NONE: no such one", () -> {
            Due.is("without a FIELD", new KiteVote().book(0), NONE);
            Due.is("of an empty BOOK", two().book(0), NONE);
        });
        Edge.test("24: how many still can be", () -> {
            KiteVote x = two();
            x.go(2);
            Due.is("undo()", x.undo(), 1);
            Due.is("undo()", x.undo(), 0);
        });
        Edge.test("24: NONE: none", () -> {
            Due.is("without a FIELD", new KiteVote().undo(), NONE);
            KiteVote x = two();
            Edge.refused(x, "undo()", x::undo, NONE);
            x.go(1);
            x.undo();
            Edge.refused(x, "undo() again", x::undo, NONE);
        });
        Edge.test("24: what was refused is no ACT", () -> {
            KiteVote x = Edge.on("fb1;kx9;k");
            x.mode(0, 0);
            x.wax(0);
            x.move(0, -1);
            x.splice(0, 0, 1);
            x.talk(0, 0);
            x.go(2);
            x.gusts(2, 1);
            x.sit();
            none("undo()", x::undo);
        });
    }

    // ---- 25 to 30

    private static void aheadRefused() {
        Edge.test("25: NONE: no such KITE, no FIELD", () -> {
            KiteVote x = two();
            for (int kite : new int[] {2, -1, 8, LEAST, MOST}) {
                Edge.refused(x, "ahead(" + kite + ", 1, 0)", () -> x.ahead(kite, 1, 0), NONE);
            }
            Due.is("without a FIELD", new KiteVote().ahead(0, 0, 0), NONE);
        });
        Edge.test("25: of a CUT one, too", () -> Due.is("ahead(0, 1, 2)", Edge.cutOne().ahead(0, 1, 2), 18));
        Edge.test("25: NONE: no such what", () -> {
            KiteVote x = two();
            for (int what : new int[] {4, -1, LEAST, MOST}) {
                Edge.refused(x, "ahead(0, 1, " + what + ")", () -> x.ahead(0, 1, what), NONE);
            }
        });
        Edge.test("25: NONE: out of bounds", () -> {
            KiteVote x = two();
            Due.is("ahead(0, 9, 0)", x.ahead(0, 9, 0), 5);
            for (int n : new int[] {10, -1, LEAST, MOST}) {
                Edge.refused(x, "ahead(0, " + n + ", 0)", () -> x.ahead(0, n, 0), NONE);
            }
        });
        Edge.test("26: RESULT (0), FEET for nay (1), for yea (2)", () -> {
            KiteVote x = Edge.on("fb1;as3;kw3h5;kp5w3h7o1;kp9w3h20o2");
            Due.is("bell(0)", x.bell(0), 1);
            Due.is("bell(1)", x.bell(1), 15);
            Due.is("bell(2)", x.bell(2), 21);
        });
        Edge.test("26: NONE: no FIELD", () -> {
            for (int what = 0; what < 3; what++) {
                Due.is("bell(" + what + ")", new KiteVote().bell(what), NONE);
            }
        });
        Edge.test("26: NONE: no such what", () -> {
            KiteVote x = two();
            for (int what : new int[] {3, -1, LEAST, MOST}) {
                Edge.refused(x, "bell(" + what + ")", () -> x.bell(what), NONE);
            }
        });
        Edge.test("27: NONE: none", () -> {
            Due.is("cut(0)", two().cut(0), NONE);
            Due.is("cut(1)", two().cut(1), NONE);
        });
        Edge.test("27: NONE: no FIELD", () -> {
            Due.is("cut(0)", new KiteVote().cut(0), NONE);
            Due.is("cut(1)", new KiteVote().cut(1), NONE);
        });
        Edge.test("27: NONE: no such what", () -> {
            KiteVote x = Edge.on("as3;kw3h5;kw3h5");
            Due.is("cut(1)", x.cut(1), 10);
            for (int what : new int[] {2, -1, LEAST, MOST}) {
                Edge.refused(x, "cut(" + what + ")", () -> x.cut(what), NONE);
            }
        });
        Edge.test("28: NONE: not before the BELL or at it", () -> {
            Due.is("calm()", two().calm(), NONE);
            Due.is("a MINUTE too late", Edge.on("fb2;as1;kw2h3").calm(), NONE);
            Due.is("at it", Edge.on("fb3;as1;kw2h3").calm(), 3);
        });
        Edge.test("28: NONE: no FIELD", () -> Due.is("calm()", new KiteVote().calm(), NONE));
        Edge.test("29: NONE: no such one that flies", () -> {
            noSuch("timing", (x, k) -> (long) x.timing(k, 0), NONE);
            noSuch("timing, HEIGHT", (x, k) -> (long) x.timing(k, 1), NONE);
        });
        Edge.test("29: NONE: no such what", () -> {
            KiteVote x = two();
            for (int what : new int[] {2, -1, LEAST, MOST}) {
                Edge.refused(x, "timing(0, " + what + ")", () -> x.timing(0, what), NONE);
            }
        });
        Edge.test("30: NONE: no such one that flies", () -> {
            noSuch("stand", (x, k) -> (long) x.stand(k, 0), NONE);
            noSuch("stand, HEIGHT", (x, k) -> (long) x.stand(k, 1), NONE);
        });
        Edge.test("30: NONE: no such what", () -> {
            KiteVote x = two();
            for (int what : new int[] {2, -1, LEAST, MOST}) {
                Edge.refused(x, "stand(0, " + what + ")", () -> x.stand(0, what), NONE);
            }
        });
    }

    // ---- 31 to 36

    private static void crossRefused() {
        Edge.test("31: NONE: no such ones that fly", () -> {
            noSuch("cross of", (x, k) -> (long) x.cross(k, 1), NONE);
            noSuch("cross with", (x, k) -> (long) x.cross(1, k), NONE);
        });
        Edge.test("31: NONE: alike", () -> {
            KiteVote x = two();
            Edge.refused(x, "cross(0, 0)", () -> x.cross(0, 0), NONE);
            Edge.refused(x, "cross(1, 1)", () -> x.cross(1, 1), NONE);
        });
        Edge.test("31: NONE: no free PLACE next to the other one", () -> {
            KiteVote x = Edge.on("k;kp5;kp4;kp6;kp19;kp18");
            Edge.refused(x, "cross(0, 1)", () -> x.cross(0, 1), NONE);
            Edge.refused(x, "cross(0, 4) in the last", () -> x.cross(0, 4), NONE);
            Due.is("cross(2, 1) next to it", x.cross(2, 1), 0);
            Due.is("cross(1, 0) in the first", x.cross(1, 0), 0);
        });
        Edge.test("32: NONE: no such one that flies", () -> noSuch("prey", (x, k) -> (long) x.prey(k), NONE));
        Edge.test("33: NONE: no such one that flies", () -> noSuch("power", (x, k) -> (long) x.power(k), NONE));
        Edge.test("34: NONE: none is enough", () -> {
            Due.is("all low", Edge.on("k;k").talked(), NONE);
            Due.is("nobody flies", Edge.nobody().talked(), NONE);
        });
        Edge.test("34: NONE: no FIELD", () -> Due.is("talked()", new KiteVote().talked(), NONE));
        Edge.test("34: as bits", () -> Due.is("talked()", two().talked(), 2));
    }

    private static void whoDecides() {
        Edge.test("35: NONE: out of bounds", () -> {
            KiteVote x = two();
            Due.is("content(1)", x.content(1), 2);
            Due.is("content(60)", x.content(60), 2);
            for (int bell : new int[] {0, 61, -1, LEAST, MOST}) {
                Edge.refused(x, "content(" + bell + ")", () -> x.content(bell), NONE);
            }
        });
        Edge.test("35: NONE: no FIELD", () -> Due.is("content(1)", new KiteVote().content(1), NONE));
        Edge.test("36: the BELL (0), how many (1)", () -> {
            Due.is("ringer(0)", two().ringer(0), 1);
            Due.is("ringer(1)", two().ringer(1), 2);
        });
        Edge.test("36: NONE: no FIELD", () -> {
            Due.is("ringer(0)", new KiteVote().ringer(0), NONE);
            Due.is("ringer(1)", new KiteVote().ringer(1), NONE);
        });
        Edge.test("36: NONE: no such what", () -> {
            KiteVote x = two();
            for (int what : new int[] {2, -1, LEAST, MOST}) {
                Edge.refused(x, "ringer(" + what + ")", () -> x.ringer(what), NONE);
            }
        });
    }

    // ---- 37 to 42

    private static void duelsRefused() {
        Edge.test("37: HIDDEN: no such ones that fly", () -> {
            noSuch("duel of", (x, k) -> (long) x.duel(k, 1, 0, 0), HIDDEN);
            noSuch("duel with", (x, k) -> (long) x.duel(1, k, 0, 0), HIDDEN);
        });
        Edge.test("37: HIDDEN: alike", () -> {
            KiteVote x = two();
            Edge.refused(x, "duel(0, 0, 0, 0)", () -> x.duel(0, 0, 0, 0), HIDDEN);
        });
        Edge.test("37: HIDDEN: out of bounds (0 .. 5 each)", () -> {
            KiteVote x = two();
            Due.is("duel(0, 1, 5, 5)", x.duel(0, 1, 5, 5), -2);
            for (int start : new int[] {6, -1, LEAST, MOST}) {
                Edge.refused(x, "duel(0, 1, " + start + ", 0)", () -> x.duel(0, 1, start, 0), HIDDEN);
                Edge.refused(x, "duel(0, 1, 0, " + start + ")", () -> x.duel(0, 1, 0, start), HIDDEN);
            }
        });
        Edge.test("38: how many (i NONE), the i-th", () -> {
            KiteVote x = two();
            Due.is("rests(0, 1, NONE)", x.rests(0, 1, NONE), 36);
            Due.is("rests(0, 1, 0)", x.rests(0, 1, 0), 0);
            Due.is("rests(0, 1, 35)", x.rests(0, 1, 35), 55);
        });
        Edge.test("38: NONE: no such one", () -> {
            KiteVote x = two();
            for (int i : new int[] {36, -2, LEAST, MOST}) {
                Edge.refused(x, "rests(0, 1, " + i + ")", () -> x.rests(0, 1, i), NONE);
            }
        });
        Edge.test("38: NONE: no such ones that fly", () -> {
            noSuch("rests of", (x, k) -> (long) x.rests(k, 1, 0), NONE);
            noSuch("rests with", (x, k) -> (long) x.rests(1, k, 0), NONE);
            noSuch("how many of", (x, k) -> (long) x.rests(k, 1, NONE), NONE);
        });
        Edge.test("38: NONE: alike", () -> {
            KiteVote x = two();
            Edge.refused(x, "rests(0, 0, NONE)", () -> x.rests(0, 0, NONE), NONE);
            Edge.refused(x, "rests(1, 1, 0)", () -> x.rests(1, 1, 0), NONE);
        });
    }

    private static void clansRefused() {
        Edge.test("39: NONE: no such CLAN", () -> {
            KiteVote x = two();
            Due.is("clan(0, NONE)", x.clan(0, NONE), 36);
            for (int clan : new int[] {5, -1, LEAST, MOST}) {
                Edge.refused(x, "clan(" + clan + ", NONE)", () -> x.clan(clan, NONE), NONE);
            }
        });
        Edge.test("39: NONE: no FIELD", () -> {
            Due.is("clan(0, NONE)", new KiteVote().clan(0, NONE), NONE);
            Due.is("clan(0, 0)", new KiteVote().clan(0, 0), NONE);
        });
        Edge.test("39: NONE: no such one of it that flies", () -> {
            KiteVote x = Edge.on("kh5;kp5h5g1");
            for (int without : new int[] {2, -2, 8, LEAST, MOST}) {
                Edge.refused(x, "clan(0, " + without + ")", () -> x.clan(0, without), NONE);
            }
            Edge.refused(x, "clan(0, 1) of another one", () -> x.clan(0, 1), NONE);
            Edge.refused(x, "clan(1, 0) of another one", () -> x.clan(1, 0), NONE);
            KiteVote y = Edge.cutOne();
            Edge.refused(y, "clan(0, 0) that is CUT", () -> y.clan(0, 0), NONE);
        });
        Edge.test("42: NONE: no such CLAN", () -> {
            KiteVote x = two();
            Due.is("spare(0)", x.spare(0), 68);
            Due.is("spare(4)", x.spare(4), 0);
            for (int clan : new int[] {5, -1, LEAST, MOST}) {
                Edge.refused(x, "spare(" + clan + ")", () -> x.spare(clan), NONE);
            }
        });
        Edge.test("42: NONE: no FIELD", () -> Due.is("spare(0)", new KiteVote().spare(0), NONE));
        Edge.test("43: NONE: no FIELD", () -> Due.is("lonely()", new KiteVote().lonely(), NONE));
        Edge.test("44: NONE: nobody flies", () -> Due.is("highest()", Edge.nobody().highest(), NONE));
        Edge.test("44: NONE: no FIELD", () -> Due.is("highest()", new KiteVote().highest(), NONE));
    }

    // ---- 40, 41

    private static void seenRefused() {
        Edge.test("40: how many there are", () -> {
            KiteVote x = two();
            Due.is("see(0, 1, 0)", x.see(0, 1, 0), 1);
            Due.is("see(0, 1, 0) again", x.see(0, 1, 0), 2);
            Due.is("see(1, 9, 99)", x.see(1, 9, 99), 3);
            Due.is("count(11)", x.count(11), 3);
        });
        Edge.test("40: NONE: no such KITE", () -> {
            KiteVote x = two();
            for (int kite : new int[] {2, -1, 8, LEAST, MOST}) {
                Edge.refused(x, "see(" + kite + ", 1, 0)", () -> x.see(kite, 1, 0), NONE);
            }
            Due.is("without a FIELD", new KiteVote().see(0, 1, 0), NONE);
        });
        Edge.test("40: NONE: out of bounds: j", () -> {
            KiteVote x = two();
            for (int j : new int[] {0, 10, -1, LEAST, MOST}) {
                Edge.refused(x, "see(0, " + j + ", 0)", () -> x.see(0, j, 0), NONE);
            }
        });
        Edge.test("40: NONE: out of bounds (HEIGHT 0 .. 99)", () -> {
            KiteVote x = two();
            for (int height : new int[] {-1, 100, LEAST, MOST}) {
                Edge.refused(x, "see(0, 1, " + height + ")", () -> x.see(0, 1, height), NONE);
            }
        });
        Edge.test("40: NONE: there are eight", () -> {
            KiteVote x = two();
            for (int i = 1; i <= 8; i++) {
                Due.is("see " + i, x.see(0, 1, 5), i);
            }
            Edge.refused(x, "see a ninth", () -> x.see(0, 1, 5), NONE);
            Due.is("weighs(0)", x.weighs(0), 14);
        });
        Edge.test("41: NONE: no such one that flies", () -> noSuch("weighs", (x, k) -> (long) x.weighs(k), NONE));
    }

    // ---- 45 to 47

    private static void imagesRefused() {
        Edge.test("45: the MINUTE", () -> {
            KiteVote x = two();
            Due.is("image()", x.image(), 0);
            x.go(9);
            Due.is("image() at the BELL", x.image(), 9);
        });
        Edge.test("45: (instead of the one ahead)", () -> {
            KiteVote x = two();
            x.image();
            x.go(2);
            x.image();
            x.go(2);
            Due.is("back()", x.back(), 2);
        });
        Edge.test("45: NONE: no FIELD", () -> {
            KiteVote x = new KiteVote();
            Due.is("image()", x.image(), NONE);
            Due.is("back()", x.back(), NONE);
        });
        Edge.test("46: NONE: no IMAGE of this FIELD", () -> {
            Due.is("without a FIELD", new KiteVote().back(), NONE);
            KiteVote x = two();
            Edge.refused(x, "back() without one", x::back, NONE);
            x.go(1);
            x.image();
            Due.feed(x, "k;k");
            x.text(0);
            Edge.refused(x, "back() of another FIELD's", x::back, NONE);
        });
        Edge.test("46: a refused text leaves the IMAGE", () -> {
            KiteVote x = two();
            x.go(1);
            x.image();
            Due.feed(x, "kx");
            none("text(0)", () -> x.text(0));
            Due.is("back()", x.back(), 1);
        });
    }

    private static void counts() {
        Edge.test("47: 0 .. 12", () -> {
            KiteVote x = Edge.on("fb2;a;as3;kw3h5o1;kw3h5x9;kp9w3h4");
            for (int i = 0; i < 3; i++) {
                Due.feed(x, i == 1 ? "y:s-w" : "y:1+b-a");
                x.text(1);
            }
            x.holds(0, 1);
            x.holds(1, 2);
            x.gust(5);
            x.see(0, 1, 1);
            x.go(2);
            x.sit();
            x.go(1);
            Due.feed(x, "abcd");
            int[] counts = {3, 2, 2, 3, 4, 1, 2, 1, 5, 0, 1, 1, 4};
            for (int i = 0; i < counts.length; i++) {
                Due.is("count(" + i + ")", x.count(i), counts[i]);
            }
        });
        Edge.test("47: HIDDEN for others", () -> {
            KiteVote x = two();
            for (int what : new int[] {13, -1, 14, LEAST, MOST}) {
                Edge.refused(x, "count(" + what + ")", () -> x.count(what), HIDDEN);
            }
            Due.is("without a FIELD", new KiteVote().count(13), HIDDEN);
        });
        Edge.test("47: (NONE) where no LAW holds", () -> {
            KiteVote x = Edge.on("k", "y:1", "y:2");
            x.holds(0, NONE);
            Due.is("count(5)", x.count(5), NONE);
            Due.is("count(6)", x.count(6), 1);
        });
    }

    // ---- "What is refused answers as told and changes nothing."

    /** With LAWS, a sitting put by, ACTS, an IMAGE of an earlier MINUTE, something SEEN, GUST, and a TAPE that is a FAULT. */
    private static KiteVote busy() {
        KiteVote x = Edge.on("fb3;as3;kw3h5m1g1;kp1w3h7x9g2;kp2w3h2g1", "y:s-w", "y:1");
        x.gust(7);
        x.go(3);
        x.sit();
        x.wax(0);
        x.image();
        x.go(1);
        x.talk(0, 1);
        x.see(0, 1, 4);
        Due.feed(x, "kh9;x");
        return x;
    }

    private static void nothingChanged() {
        refusedBusy("feed", -1, x -> feed(x, Due.words(Due.pad(" ", 20), 0)), Due.pad(" ", 232));
        refusedBusy("end", 0, x -> x.end(6) ? 1 : 0, "");
        refusedBusy("fault", -2, x -> x.fault(2), "");
        refusedBusy("text of a FIELD", -1, x -> x.text(0), "");
        refusedBusy("text of a LAW", -1, x -> x.text(1), "");
        refusedBusy("text of no sort", -1, x -> x.text(2), "");
        refusedBusy("kite", 1, x -> thrown(x, 3, 0), "");
        refusedBusy("law", -1, x -> x.law(4), "");
        refusedBusy("holds", 0, x -> x.holds(0, 2) ? 1 : 0, "");
        refusedBusy("holds of no such what", 0, x -> x.holds(2, 0) ? 1 : 0, "");
        refusedBusy("wind", -1, x -> x.wind(100, 0), "");
        refusedBusy("lift", HIDDEN, x -> x.lift(3), "");
        refusedBusy("wear", -1, x -> x.wear(0, 0), "");
        refusedBusy("feet", -1, x -> x.feet(3), "");
        refusedBusy("mode", 0, x -> x.mode(0, 1) ? 1 : 0, "");
        refusedBusy("wax in this sitting", -1, x -> x.wax(0), "");
        refusedBusy("wax of 9", -1, x -> x.wax(1), "");
        refusedBusy("move to a held PLACE", -1, x -> x.move(0, 1), "");
        refusedBusy("move to no PLACE", -1, x -> x.move(0, -1), "");
        refusedBusy("splice of two CLANS", -1, x -> x.splice(0, 1, 1), "");
        refusedBusy("splice of too much", -1, x -> x.splice(0, 2, 36), "");
        refusedBusy("talk", 0, x -> x.talk(0, 1) ? 1 : 0, "");
        refusedBusy("go", -1, x -> x.go(3), "");
        refusedBusy("gust", 0, x -> x.gust(7) ? 1 : 0, "");
        refusedBusy("gusts", -1, x -> x.gusts(3, 1), "");
        refusedBusy("sit", -1, x -> x.sit(), "");
        refusedBusy("book", -1, x -> x.book(1), "");
        refusedBusy("ahead", -1, x -> x.ahead(0, 3, 0), "");
        refusedBusy("bell", -1, x -> x.bell(3), "");
        refusedBusy("cut", -1, x -> x.cut(2), "");
        refusedBusy("calm", -1, x -> x.calm(), "");
        refusedBusy("timing", -1, x -> x.timing(0, 2), "");
        refusedBusy("stand", -1, x -> x.stand(3, 0), "");
        refusedBusy("cross", -1, x -> x.cross(0, 3), "");
        refusedBusy("prey", -1, x -> x.prey(3), "");
        refusedBusy("power", -1, x -> x.power(3), "");
        refusedBusy("content", -1, x -> x.content(61), "");
        refusedBusy("ringer", -1, x -> x.ringer(2), "");
        refusedBusy("duel", HIDDEN, x -> x.duel(0, 1, 6, 0), "");
        refusedBusy("rests", -1, x -> x.rests(0, 1, 36), "");
        refusedBusy("clan", -1, x -> x.clan(2, 0), "");
        refusedBusy("see", -1, x -> x.see(0, 10, 0), "");
        refusedBusy("weighs", -1, x -> x.weighs(3), "");
        refusedBusy("spare", -1, x -> x.spare(5), "");
        refusedBusy("count", HIDDEN, x -> x.count(13), "");
        Edge.test("refused back changes nothing", () -> {
            KiteVote x = two();
            x.go(2);
            Edge.refused(x, "back()", x::back, NONE);
            Due.is("undo()", x.undo(), 1);
        });
    }

    /** Beside one of which nothing was asked: what shows, what can be UNDONE, what BACK leads to. */
    private static void refusedBusy(String call, long want, java.util.function.ToLongFunction<KiteVote> answer, String more) {
        Edge.test("refused " + call + " changes nothing", () -> {
            KiteVote x = busy();
            KiteVote y = busy();
            Due.feed(x, more);
            Due.feed(y, more);
            Due.is(call, answer.applyAsLong(x), want);
            Due.is("what shows", Edge.shows(x).equals(Edge.shows(y)), true);
            Due.is("weighs(0)", x.weighs(0), y.weighs(0));
            Due.is("undo()", x.undo(), y.undo());
            Due.is("undo()", x.undo(), y.undo());
            Due.is("what shows then", Edge.shows(x).equals(Edge.shows(y)), true);
            Due.is("back()", x.back(), 0);
            y.back();
            Due.is("what shows behind it", Edge.shows(x).equals(Edge.shows(y)), true);
            Due.is("wax(2)", x.wax(2), 1);
            Due.is("wax(0)", x.wax(0), NONE);
            Due.is("end(5)", x.end(5), true);
            Due.is("fault(0)", x.fault(0), 4);
        });
    }

    // ---- LANGUAGE.md, rule 7

    private static final int[] FAR = {LEAST, -2, -1, 0, 1, 2, 5, 7, 8, 9, 12, 40, 60, 61, 99, 100, 240, 241, MOST};
    private static final int[] NEAR = {LEAST, -1, 0, 1, 7, 8, MOST};
    private static final int[] FEW = {LEAST, -1, 0, 7, MOST};

    private static void wild() {
        Edge.test("No call throws by itself, for any arguments in any state", () -> {
            for (Method m : KiteVote.class.getDeclaredMethods()) {
                if (Modifier.isPublic(m.getModifiers())) {
                    for (int state = 0; state < 6; state++) {
                        wild(m, state);
                    }
                }
            }
        });
    }

    private static KiteVote state(int state) {
        switch (state) {
            case 0:
                return new KiteVote();
            case 1:
                return Edge.on("k");
            case 2:
                return Edge.on("fw8b60;as9;kh9l99m1x9;kh9;kh9m1;kh9;kh9;kh9m2;kh9;kh9x5", "y:9999*9999/0", "y:d*d*d*d*d");
            case 3:
                return Edge.nobody();
            case 4:
                KiteVote x = two();
                x.go(9);
                return x;
            default:
                KiteVote y = Edge.on("fb60;k;k;k;k;k;k;k;k");
                y.go(50);
                y.image();
                Due.feed(y, Due.pad("y:[", 80));
                return y;
        }
    }

    private static void wild(Method m, int state) {
        int n = m.getParameterCount();
        int[] values = n <= 2 ? FAR : n == 3 ? NEAR : FEW;
        int runs = 1;
        for (int i = 0; i < n; i++) {
            runs *= values.length;
        }
        KiteVote x = state(state);
        for (int run = 0; run < runs; run++) {
            if (run % 100 == 99) {
                x = state(state);
            }
            Object[] a = new Object[n];
            for (int i = 0, rest = run; i < n; i++, rest /= values.length) {
                int v = values[rest % values.length];
                if (m.getParameterTypes()[i] == long.class) {
                    a[i] = (long) v;
                } else {
                    a[i] = v;
                }
            }
            Due.is(m.getName() + " " + java.util.Arrays.toString(a) + " in state " + state, ends(m, x, a), true);
        }
    }

    private static boolean ends(Method m, KiteVote x, Object[] a) {
        try {
            m.invoke(x, a);
            return true;
        } catch (InvocationTargetException e) {
            return e.getCause().getClass() == NoSuchElementException.class && m.getName().equals("kite");
        } catch (IllegalAccessException e) {
            return false;
        }
    }
}
