import java.math.BigInteger;

/** The edges that the Terms name of GUSTS, under ==== 4. and in a MINUTE. */
public final class GustEdgeTests {
    private static final int NONE = KiteVote.NONE;

    private GustEdgeTests() {
    }

    public static void main(String[] args) {
        tests();
        Due.close();
    }

    static void tests() {
        gusts();
        draws();
    }

    // Draws are worked out once more, in numbers that have no bounds.

    private static final BigInteger ROUND = BigInteger.ONE.shiftLeft(64);
    private static final BigInteger TIMES = new BigInteger("6364136223846793005");
    private static final BigInteger MORE = new BigInteger("1442695040888963407");

    private static BigInteger next(BigInteger x) {
        return x.multiply(TIMES).add(MORE).mod(ROUND);
    }

    private static int draw(BigInteger x, int of) {
        return x.shiftRight(33).mod(BigInteger.valueOf(of)).intValue();
    }

    /** A seed whose draws are these: what is drawn, of how many, and so on. */
    private static long seedOf(int... drawn) {
        for (long seed = 1; seed < 10000000; seed++) {
            BigInteger x = BigInteger.valueOf(seed);
            boolean fits = true;
            for (int i = 0; fits && i < drawn.length; i += 2) {
                x = next(x);
                fits = draw(x, drawn[i + 1]) == drawn[i];
            }
            if (fits) {
                return seed;
            }
        }
        throw new IllegalStateException("no such seed");
    }

    /** A seed by which, with GUST 50, one after the other this happens: 0, 1, 2, or NONE. */
    private static long seedFor(int... ways) {
        for (long seed = 1; seed < 1000000; seed++) {
            BigInteger x = BigInteger.valueOf(seed);
            boolean fits = true;
            for (int i = 0; fits && i < ways.length; i++) {
                x = next(x);
                fits = draw(x, 100) < 50 == ways[i] >= 0;
                if (fits && ways[i] >= 0) {
                    x = next(x);
                    fits = draw(x, 3) == ways[i];
                }
            }
            if (fits) {
                return seed;
            }
        }
        throw new IllegalStateException("no such seed");
    }

    private static KiteVote gusty(String field, int chance, int minutes, long seed) {
        KiteVote x = Edge.on(field);
        if (chance > 0) {
            Due.is("gust(" + chance + ")", x.gust(chance), true);
        }
        Due.is("gusts(" + minutes + ")", x.gusts(minutes, seed), minutes);
        return x;
    }

    private static void gusts() {
        Edge.test("GUSTS (1 .. as many MINUTES as are left)", () -> {
            KiteVote x = Edge.on("fb3;kh5;kp5");
            Edge.refused(x, "gusts(0)", () -> x.gusts(0, 1), NONE);
            Edge.refused(x, "gusts(4)", () -> x.gusts(4, 1), NONE);
            Due.is("gusts(1)", x.gusts(1, 1), 1);
            Edge.refused(x, "gusts(3)", () -> x.gusts(3, 1), NONE);
            Due.is("gusts(2)", x.gusts(2, 1), 3);
            Edge.refused(x, "gusts(1) at the BELL", () -> x.gusts(1, 1), NONE);
        });
        String field = "as3;kw3h20l40m1";
        Edge.test("GUSTS: a draw of 100: below GUST, not at it", () -> {
            long at = seedOf(39, 100, 0, 3);
            Edge.row(gusty(field, 40, 1, at), Edge.HEIGHT, 15);
            Edge.row(gusty(field, 39, 1, at), Edge.HEIGHT, 20);
            Edge.row(gusty(field, 38, 1, at), Edge.HEIGHT, 20);
        });
        Edge.test("GUSTS: GUST 0 at first: none, whatever is drawn", () -> {
            long at = seedOf(0, 100, 0, 3);
            Edge.row(gusty(field, 0, 1, at), Edge.HEIGHT, 20);
            Edge.row(gusty(field, 1, 1, at), Edge.HEIGHT, 15);
        });
        Edge.test("GUSTS: GUST 99: not at a draw of 99", () -> {
            Edge.row(gusty(field, 99, 1, seedOf(99, 100, 0, 3)), Edge.HEIGHT, 20);
            Edge.row(gusty(field, 99, 1, seedOf(98, 100, 0, 3)), Edge.HEIGHT, 15);
        });
        Edge.test("GUSTS: 0: HEIGHT is 5 less (0 at least)", () -> {
            long at = seedOf(0, 100, 0, 3);
            int[] heights = {0, 1, 4, 5, 6, 12};
            int[] due = {0, 0, 0, 0, 1, 7};
            for (int i = 0; i < heights.length; i++) {
                Edge.row(gusty("as3;kw3h" + heights[i], 50, 1, at), Edge.HEIGHT, due[i]);
            }
        });
        Edge.test("GUSTS: 1: 5 more (PAID at most)", () -> {
            long at = seedOf(0, 100, 1, 3);
            Edge.row(gusty("fr9;as3;kw3h20l40m1", 50, 1, at), Edge.HEIGHT, 25);
            Edge.row(gusty("fr5;as3;kw3h20l40m1", 50, 1, at), Edge.HEIGHT, 25);
            Edge.row(gusty("fr4;as3;kw3h20l40m1", 50, 1, at), Edge.HEIGHT, 24);
            Edge.row(gusty("fr5;as3;kw3h20l40", 50, 1, at), Edge.HEIGHT, 20);
            Edge.row(gusty("fr4;as3;kw3h20l40m1", 50, 1, at), Edge.PAID, 24);
        });
        Edge.test("GUSTS: 2: it is WORN 1 more", () -> {
            KiteVote x = gusty(field, 50, 1, seedOf(0, 100, 2, 3));
            Edge.row(x, Edge.WORN, 1);
            Edge.row(x, Edge.HEIGHT, 20);
            Edge.row(x, Edge.FLIES, 1);
        });
        Edge.test("GUSTS: 2: (it may be CUT in (3))", () -> {
            KiteVote x = Edge.on("as3;kw3h5;kp9w3h5");
            for (int i = 0; i < 3; i++) {
                x.splice(1, 0, 1);
            }
            x.gust(50);
            x.gusts(1, seedFor(2, NONE));
            Edge.row(x, Edge.WORN, 1, 0);
            Edge.row(x, Edge.FLIES, 0, 1);
            Edge.row(x, Edge.HEIGHT, 0, 5);
        });
        Edge.test("GUSTS: 2: one more beside what it is WORN in (3)", () -> {
            KiteVote x = Edge.on("as3;kw3h5;kw3h5");
            x.go(8);
            x.gust(50);
            x.gusts(1, seedFor(2, NONE));
            Edge.row(x, Edge.WORN, 10, 9);
            Edge.row(x, Edge.FLIES, 0, 1);
        });
        Edge.test("GUSTS: behind (2) of each MINUTE", () -> {
            // rises by 4 to 5, then falls by 5: a gust ahead of (2) would leave 4
            Edge.row(gusty("as9;kw5h1l40m1;kp9", 50, 1, seedFor(0, NONE)), Edge.HEIGHT, 0, 0);
        });
    }

    private static void draws() {
        Edge.test("GUSTS: for each that flies by numbers", () -> {
            String field = "as3;kp9w3h20;kp5w3h20;kp1w3h20";
            long at = seedFor(NONE, 0, NONE);
            Edge.row(gusty(field, 50, 1, at), Edge.HEIGHT, 20, 15, 20);
            at = seedFor(0, NONE, 2);
            KiteVote x = gusty(field, 50, 1, at);
            Edge.row(x, Edge.HEIGHT, 15, 20, 20);
            Edge.row(x, Edge.WORN, 0, 0, 1);
        });
        Edge.test("GUSTS: no draw for one that is CUT", () -> {
            KiteVote x = Edge.cutOne();
            x.gust(50);
            x.gusts(1, seedFor(0, NONE));
            Edge.row(x, Edge.HEIGHT, 0, 0);
            x = Edge.cutOne();
            x.gust(50);
            x.gusts(1, seedFor(NONE, 0));
            Edge.row(x, Edge.HEIGHT, 0, 5);
        });
        Edge.test("GUSTS: a draw goes on in the next MINUTE", () -> {
            KiteVote x = gusty("as3;kw3h20l40", 50, 2, seedFor(NONE, 0));
            Edge.row(x, Edge.HEIGHT, 15);
            x = gusty("as3;kw3h20l40", 50, 2, seedFor(0, NONE));
            Edge.row(x, Edge.HEIGHT, 15);
            x = gusty("as3;kw3h20l40", 50, 2, seedFor(0, 2));
            Edge.row(x, Edge.HEIGHT, 15);
            Edge.row(x, Edge.WORN, 1);
        });
        Edge.test("GUSTS: each begins with its seed", () -> {
            long at = seedFor(0, NONE);
            KiteVote x = gusty("as3;kw3h20l40", 50, 1, at);
            x.gusts(1, at);
            Edge.row(x, Edge.HEIGHT, 10);
        });
        Edge.test("(3) all as it was behind GUSTS, too: one that fell to 0", () -> {
            KiteVote x = gusty("as3;kw3h5;kw3h5", 50, 1, seedFor(0, NONE));
            Edge.row(x, Edge.HEIGHT, 0, 5);
            Edge.row(x, Edge.WORN, 0, 0);
        });
        Edge.test("(3) all as it was behind GUSTS, too: one that rose from 0", () -> {
            KiteVote x = gusty("as3;kw3m1;kw3h5", 50, 1, seedFor(1, NONE));
            Edge.row(x, Edge.HEIGHT, 5, 5);
            Edge.row(x, Edge.WORN, 1, 1);
        });
        Edge.test("GUSTS: x: 64 bits, going round; shifted by 33, without sign", () -> {
            long[] seeds = {0, -1, 1, Long.MAX_VALUE, Long.MIN_VALUE, Long.MIN_VALUE + 1, 1L << 33, -1L << 33};
            for (long seed : seeds) {
                drawn(seed);
            }
            for (long seed = -30; seed < 30; seed++) {
                drawn(seed * 1000003 * 1000003);
            }
        });
    }

    /** What the first two draws of a seed do to one at 20 of PAID 25. */
    private static void drawn(long seed) {
        BigInteger x = next(BigInteger.valueOf(seed).mod(ROUND));
        int chance = draw(x, 100);
        int way = draw(next(x), 3);
        KiteVote y = gusty("as3;kw3h20l40m1", 60, 1, seed);
        boolean blows = chance < 60;
        Edge.row(y, Edge.HEIGHT, !blows || way == 2 ? 20 : way == 0 ? 15 : 25);
        Edge.row(y, Edge.WORN, blows && way == 2 ? 1 : 0);
    }
}
