/** The edges that the Terms name under ==== 2.: winds, lifts, wear, minutes, cuts, feet, sittings, acts. */
public final class MinuteEdgeTests {
    private static final int NONE = KiteVote.NONE;

    private MinuteEdgeTests() {
    }

    public static void main(String[] args) {
        tests();
        Due.close();
    }

    static void tests() {
        winds();
        lifts();
        wears();
        minutes();
        paying();
        heights();
        wearing();
        cuts();
        results();
        hands();
        sittings();
        acts();
    }

    private static void winds() {
        Edge.test("WIND: FROM is no more than the HEIGHT", () -> {
            KiteVote x = Edge.on("k;af10s7");
            Due.is("wind(9, 0)", x.wind(9, 0), 0);
            Due.is("wind(10, 0)", x.wind(10, 0), 7);
            Due.is("wind(11, 0)", x.wind(11, 0), 7);
            Due.is("wind(99, 0)", x.wind(99, 0), 7);
        });
        Edge.test("WIND: whose MINUTE is no later", () -> {
            KiteVote x = Edge.on("k;an5s7");
            Due.is("wind(0, 4)", x.wind(0, 4), 0);
            Due.is("wind(0, 5)", x.wind(0, 5), 7);
            Due.is("wind(0, 6)", x.wind(0, 6), 7);
            Due.is("wind(0, 60)", x.wind(0, 60), 7);
        });
        Edge.test("WIND: both must be so", () -> {
            KiteVote x = Edge.on("k;af10n5s7");
            Due.is("wind(10, 4)", x.wind(10, 4), 0);
            Due.is("wind(9, 5)", x.wind(9, 5), 0);
            Due.is("wind(10, 5)", x.wind(10, 5), 7);
        });
        Edge.test("WIND: of the latest told AIR", () -> {
            Due.is("three alike", Edge.on("k;as3;as5;as1").wind(0, 0), 1);
            Due.is("a lower one told later", Edge.on("k;af50s3;as5").wind(50, 0), 5);
            Due.is("an earlier one told later", Edge.on("k;an9s3;as5").wind(0, 9), 5);
            Due.is("a higher one told later", Edge.on("k;as5;af50s3").wind(49, 0), 5);
            Due.is("STRENGTH 0 told later", Edge.on("k;as5;as0").wind(0, 0), 0);
        });
        Edge.test("WIND: (0: none)", () -> {
            Due.is("no AIR", Edge.on("k").wind(99, 60), 0);
            Due.is("none so low", Edge.on("k;af99n60s9").wind(98, 60), 0);
            Due.is("none so early", Edge.on("k;af99n60s9").wind(99, 59), 0);
            Due.is("the highest, the latest", Edge.on("k;af99n60s9").wind(99, 60), 9);
        });
    }

    private static void lifts() {
        Edge.test("LIFT: none at first: s less w", () -> {
            KiteVote x = Edge.on("as6;kw2h5;kw9;kw6");
            Due.is("lift(0)", x.lift(0), 4);
            Due.is("lift(1)", x.lift(1), -3);
            Due.is("lift(2)", x.lift(2), 0);
            Due.is("the most", Edge.on("as9;kw1").lift(0), 8);
            Due.is("the least", Edge.on("kw9").lift(0), -9);
        });
        Edge.test("LIFT: held within .. 9", () -> {
            Due.is("8", Edge.on("k", "y:8", null).lift(0), 8);
            Due.is("9", Edge.on("k", "y:9", null).lift(0), 9);
            Due.is("10", Edge.on("k", "y:10", null).lift(0), 9);
            Due.is("9999", Edge.on("k", "y:9999", null).lift(0), 9);
        });
        Edge.test("LIFT: held within -9 ..", () -> {
            Due.is("-8", Edge.on("k", "y:0-8", null).lift(0), -8);
            Due.is("-9", Edge.on("k", "y:0-9", null).lift(0), -9);
            Due.is("-10", Edge.on("k", "y:0-10", null).lift(0), -9);
            Due.is("-9999", Edge.on("k", "y:0-9999", null).lift(0), -9);
        });
        Edge.test("LIFT: held so in a MINUTE, too", () -> {
            KiteVote x = Edge.on("fr9;kl99m1", "y:t<4?0;y:9999", null);
            x.go(5);
            Edge.row(x, Edge.PAID, 45);
            Edge.row(x, Edge.HEIGHT, 9);
            x = Edge.on("kl99h50", "y:0-9999", null);
            x.go(2);
            Edge.row(x, Edge.HEIGHT, 32);
        });
        Edge.test("LIFT: s WIND at its HEIGHT now", () -> {
            KiteVote x = Edge.on("as5;af10s1;kw1h10;kw1h9");
            Due.is("lift(0)", x.lift(0), 0);
            Due.is("lift(1)", x.lift(1), 4);
        });
        Edge.test("LIFT: s in the MINUTE that is now", () -> {
            KiteVote x = Edge.on("fb3;an1s5;an2s9;kw1");
            Due.is("lift at 0", x.lift(0), -1);
            x.go(1);
            Due.is("lift at 1", x.lift(0), 4);
            x.go(1);
            Due.is("lift at 2", x.lift(0), 8);
        });
        Edge.test("LIFT: w WEIGHT, h HEIGHT, p PAID, t the MINUTE", () -> {
            String[] letters = {"s", "w", "h", "p", "t"};
            int[] due = {6, 2, 3, 8, 1};
            for (int i = 0; i < letters.length; i++) {
                KiteVote x = Edge.on("fb9;as6;kw2l30h3m1", "y:t=0?0;y:" + letters[i], null);
                x.go(1);
                Due.is("lift by " + letters[i], x.lift(0), due[i]);
            }
        });
        Edge.test("LIFT: a, b, d 0", () -> {
            for (String letter : new String[] {"a", "b", "d"}) {
                KiteVote x = Edge.on("kh9x3;kx2", "y:" + letter, "y:" + letter);
                x.wear(0, 1);
                Due.is("lift by " + letter, x.lift(0), 0);
            }
        });
    }

    private static void wears() {
        Edge.test("WEAR: none at first: if d is above -10 and below 10", () -> {
            Due.is("d 9", Edge.on("kh19;kh10").wear(0, 1), 1);
            Due.is("d 10", Edge.on("kh20;kh10").wear(0, 1), 0);
            Due.is("d -9", Edge.on("kh10;kh19").wear(0, 1), 1);
            Due.is("d -10", Edge.on("kh10;kh20").wear(0, 1), 0);
            Due.is("d 0", Edge.on("kh10;kh10").wear(0, 1), 1);
            Due.is("d 99", Edge.on("kl99h99;k").wear(0, 1), 0);
        });
        Edge.test("WEAR: 1 and b less a, held within 0 ..", () -> {
            Due.is("a 1", Edge.on("kx1;k").wear(0, 1), 0);
            Due.is("a 2", Edge.on("kx2;k").wear(0, 1), 0);
            Due.is("a 9", Edge.on("kx9;k").wear(0, 1), 0);
        });
        Edge.test("WEAR: 1 and b less a, held within .. 9", () -> {
            Due.is("b 7", Edge.on("k;kx7").wear(0, 1), 8);
            Due.is("b 8", Edge.on("k;kx8").wear(0, 1), 9);
            Due.is("b 9", Edge.on("k;kx9").wear(0, 1), 9);
            Due.is("b 9, a 9", Edge.on("kx9;kx9").wear(0, 1), 1);
            Due.is("b 9, a 8", Edge.on("kx8;kx9").wear(0, 1), 2);
        });
        Edge.test("WEAR by a LAW held within 0 .. 9", () -> {
            Due.is("0", Edge.on("k;k", null, "y:0").wear(0, 1), 0);
            Due.is("-1", Edge.on("k;k", null, "y:0-1").wear(0, 1), 0);
            Due.is("9", Edge.on("k;k", null, "y:9").wear(0, 1), 9);
            Due.is("10", Edge.on("k;k", null, "y:10").wear(0, 1), 9);
        });
        Edge.test("WEAR: a, b, d, h, p, w, t; s 0", () -> {
            String[] letters = {"a", "b", "d", "0-d", "h", "p", "w", "t", "s"};
            int[] one = {3, 1, 4, 0, 7, 8, 4, 1, 0};
            int[] other = {1, 3, 0, 4, 3, 4, 5, 1, 0};
            for (int i = 0; i < letters.length; i++) {
                KiteVote x = Edge.on("as4;kw4h3x3m1;kp9w5h4x1", "y:h=3?4;y:0-1", "y:" + letters[i]);
                x.go(1);
                x.lift(0);
                Due.is("wear(0, 1) by " + letters[i], x.wear(0, 1), one[i]);
                Due.is("wear(1, 0) by " + letters[i], x.wear(1, 0), other[i]);
            }
        });
        Edge.test("WEAR is told of two that are not one apart, too", () ->
            Due.is("wear(0, 1)", Edge.on("kp0;kp19").wear(0, 1), 1));
    }

    private static void minutes() {
        Edge.test("A MINUTE: the first is 0", () -> {
            KiteVote x = Edge.on("k");
            Due.is("count(7)", x.count(7), 0);
            x = Edge.on("kl40h20", "y:t-3", null);
            Due.is("t", x.lift(0), -3);
            x.go(1);
            Edge.row(x, Edge.HEIGHT, 17);
        });
        Edge.test("The MINUTE is one later", () -> {
            KiteVote x = Edge.on("k");
            Due.is("go(1)", x.go(1), 1);
            Due.is("go(1)", x.go(1), 2);
            Due.is("count(7)", x.count(7), 2);
        });
        Edge.test("A MINUTE: as long as the BELL is ahead", () -> {
            KiteVote x = Edge.on("fb2;k");
            Due.is("go(1)", x.go(1), 1);
            Due.is("go(1)", x.go(1), 2);
            Edge.refused(x, "go(1)", () -> x.go(1), NONE);
            Edge.refused(x, "gusts(1, 1)", () -> x.gusts(1, 1), NONE);
        });
        Edge.test("At the BELL the MINUTE is as the BELL says", () -> {
            KiteVote x = Edge.on("fb1;k");
            Due.is("go(1)", x.go(1), 1);
            Due.is("count(7)", x.count(7), 1);
            x = Edge.on("fb60;k");
            Due.is("go(60)", x.go(60), 60);
            Due.is("count(7)", x.count(7), 60);
        });
    }

    private static void paying() {
        Edge.test("PAID (at first as HEIGHT)", () -> {
            KiteVote x = Edge.on("kl30h7;k;kl99h99");
            Edge.row(x, Edge.PAID, 7, 0, 99);
        });
        Edge.test("(1) MODE 0: PAID stays", () -> {
            KiteVote x = Edge.on("as9;kw3h5;kw3");
            x.go(3);
            Edge.row(x, Edge.PAID, 5, 0);
        });
        Edge.test("(1) MODE 1: more by what the LAW PAYS", () -> {
            KiteVote x = Edge.on("fr9;km1l99h1;kp5m1l99");
            x.go(3);
            Edge.row(x, Edge.PAID, 28, 27);
            x = Edge.on("fr1;km1l99h1");
            x.go(3);
            Edge.row(x, Edge.PAID, 4);
        });
        Edge.test("(1) MODE 1: LINE at most", () -> {
            KiteVote x = Edge.on("fr5;kl12m1;kl10m1;kl14m1;kl0m1;kl5h5m1");
            x.go(2);
            Edge.row(x, Edge.PAID, 10, 10, 10, 0, 5);
            x.go(1);
            Edge.row(x, Edge.PAID, 12, 10, 14, 0, 5);
            x.go(1);
            Edge.row(x, Edge.PAID, 12, 10, 14, 0, 5);
        });
        Edge.test("(1) MODE 2: less by that", () -> {
            KiteVote x = Edge.on("fr9;kl99h40m2");
            x.go(3);
            Edge.row(x, Edge.PAID, 13);
        });
        Edge.test("(1) MODE 2: 0 at least", () -> {
            KiteVote x = Edge.on("fr5;kh10m2;kh11m2;kh9m2;km2");
            x.go(1);
            Edge.row(x, Edge.PAID, 5, 6, 4, 0);
            x.go(1);
            Edge.row(x, Edge.PAID, 0, 1, 0, 0);
            x.go(1);
            Edge.row(x, Edge.PAID, 0, 0, 0, 0);
        });
        Edge.test("(1) of each that flies: a CUT one pays nothing out", () -> {
            KiteVote x = Edge.on("fb9;as3;kw3h5m1;kw3h5x9m1");
            x.go(3);
            Edge.row(x, Edge.PAID, 0, 20);
            Edge.row(x, Edge.HEIGHT, 0, 5);
        });
    }

    private static void heights() {
        Edge.test("(2) HEIGHT within 0 ..", () -> {
            KiteVote x = Edge.on("as1;kw3h1;kp5w3h2;kp9w3h3;kp12w3");
            x.go(1);
            Edge.row(x, Edge.HEIGHT, 0, 0, 1, 0);
        });
        Edge.test("(2) HEIGHT within .. PAID", () -> {
            KiteVote x = Edge.on("as9;kw1h3m1;kp5w6h3m1;kp9w3h4m0;kp12w3m1");
            x.go(1);
            Edge.row(x, Edge.HEIGHT, 8, 6, 4, 5);
            Edge.row(x, Edge.PAID, 8, 8, 4, 5);
        });
        Edge.test("(2) HEIGHT exactly PAID, one less", () -> {
            KiteVote x = Edge.on("as8;kw3m1;kp5w4m1");
            x.go(1);
            Edge.row(x, Edge.HEIGHT, 5, 4);
        });
        Edge.test("(2) HEIGHT within .. PAID that was hauled", () -> {
            KiteVote x = Edge.on("as3;kw3h9m2;kp5w3h5m2;kp9w1h9m2");
            x.go(1);
            Edge.row(x, Edge.HEIGHT, 4, 0, 4);
        });
        Edge.test("(2) as all was behind (1)", () -> {
            KiteVote x = Edge.on("kl40h3m1", "y:p-h", null);
            x.go(1);
            Edge.row(x, Edge.HEIGHT, 8);
            x = Edge.on("as1;af9s9;kw2l99h8m1");
            x.go(1);
            Edge.row(x, Edge.HEIGHT, 7);
        });
        Edge.test("(2) of each that flies: a CUT one stays at 0", () -> {
            KiteVote x = Edge.on("fb9;as3;an2s9;kw3h5m1;kw3h5x9");
            x.go(4);
            Edge.row(x, Edge.HEIGHT, 0, 5);
        });
    }

    private static void wearing() {
        Edge.test("(3) Of each two in PLACES one apart", () -> {
            KiteVote x = Edge.on("as3;kp3w3h5;kp4w3h5;kp6w3h5;kp8w3h5");
            x.go(1);
            Edge.row(x, Edge.WORN, 1, 1, 0, 0);
            x = Edge.on("as3;kp4w3h5;kp3w3h5");
            x.go(1);
            Edge.row(x, Edge.WORN, 1, 1);
        });
        Edge.test("(3) PLACES one apart: the first and the last are not", () -> {
            KiteVote x = Edge.on("as3;kp0w3h5;kp19w3h5");
            x.go(1);
            Edge.row(x, Edge.WORN, 0, 0);
            x = Edge.on("fw3;as3;kp0w3h5;kp2w3h5");
            x.go(1);
            Edge.row(x, Edge.WORN, 0, 0);
        });
        Edge.test("(3) one between two is WORN by both", () -> {
            KiteVote x = Edge.on("as3;kw3h5;kw3h5;kw3h5x2");
            x.go(1);
            Edge.row(x, Edge.WORN, 1, 4, 0);
        });
        Edge.test("(3) both of HEIGHT above 0: 1 is enough", () -> {
            KiteVote x = Edge.on("as3;kw3h1;kw3h1");
            x.go(1);
            Edge.row(x, Edge.WORN, 1, 1);
        });
        Edge.test("(3) both of HEIGHT above 0: one at 0, both at 0", () -> {
            KiteVote x = Edge.on("as3;kw3h1;kw3h0;kp5w3h0;kp6w3h1;kp9w3;kp10w3");
            x.go(1);
            Edge.row(x, Edge.WORN, 0, 0, 0, 0, 0, 0);
        });
        Edge.test("(3) HEIGHT above 0 behind (2): one that rose", () -> {
            KiteVote x = Edge.on("as3;kw3h5;kw2m1");
            x.go(1);
            Edge.row(x, Edge.HEIGHT, 5, 1);
            Edge.row(x, Edge.WORN, 1, 1);
        });
        Edge.test("(3) HEIGHT above 0 behind (2): one that fell", () -> {
            KiteVote x = Edge.on("as3;kw3h5;kw4h1");
            x.go(1);
            Edge.row(x, Edge.HEIGHT, 5, 0);
            Edge.row(x, Edge.WORN, 0, 0);
        });
        Edge.test("(3) all as it was behind (2): d", () -> {
            KiteVote x = Edge.on("as4;af10s2;kw3h5;kw3h15");
            x.go(1);
            Edge.row(x, Edge.HEIGHT, 5, 14);
            Edge.row(x, Edge.WORN, 1, 1);
            x = Edge.on("as2;af10s3;kw3h5;kw3h14");
            x.go(1);
            Edge.row(x, Edge.HEIGHT, 4, 14);
            Edge.row(x, Edge.WORN, 0, 0);
        });
        Edge.test("(3) t is the MINUTE that goes", () -> {
            KiteVote x = Edge.on("as3;kw3h5;kw3h5", null, "y:t");
            x.go(1);
            Edge.row(x, Edge.WORN, 0, 0);
            x.go(2);
            Edge.row(x, Edge.WORN, 3, 3);
        });
        Edge.test("(3) Of each two that fly: by a CUT one nobody is WORN", () -> {
            KiteVote x = Edge.on("fb9;as3;kw3h5;kw3h5x9;kp2w3h5x9", null, "y:a=0?9;y:b=0?1;y:0");
            x.go(2);
            Edge.row(x, Edge.FLIES, 0, 1, 1);
            Edge.row(x, Edge.WORN, 18, 2, 0);
            x.go(3);
            Edge.row(x, Edge.WORN, 18, 2, 0);
        });
    }

    private static void cuts() {
        Edge.test("CUT: WORN as much as its line bears", () -> {
            KiteVote x = Edge.on("as3;kw3h5;kw3h5x1", null, "y:a=0?1;y:0");
            x.go(9);
            Edge.row(x, Edge.WORN, 9, 0);
            Edge.row(x, Edge.FLIES, 1, 1);
            x.go(1);
            Edge.row(x, Edge.WORN, 10, 0);
            Edge.row(x, Edge.FLIES, 0, 1);
        });
        Edge.test("CUT: or more", () -> {
            KiteVote x = Edge.on("as3;kw3h5;kw3h5x9");
            x.go(1);
            Edge.row(x, Edge.WORN, 9, 0);
            Edge.row(x, Edge.FLIES, 1, 1);
            x.go(1);
            Edge.row(x, Edge.WORN, 18, 0);
            Edge.row(x, Edge.FLIES, 0, 1);
        });
        Edge.test("A line bears 10", () -> bears(0, 10));
        Edge.test("A line bears 10, less 3 for each KNOT: one", () -> bears(1, 7));
        Edge.test("A line bears 10, less 3 for each KNOT: two", () -> bears(2, 4));
        Edge.test("A line bears 10, less 3 for each KNOT: three, 1", () -> bears(3, 1));
        Edge.test("A line bears 1 at least: four KNOTS", () -> bears(4, 1));
        Edge.test("A line bears 1 at least: it is not CUT unWORN", () -> {
            KiteVote x = Edge.on("as3;kw3h5;kp9w3h5");
            for (int i = 0; i < 5; i++) {
                x.splice(1, 0, 1);
            }
            x.go(9);
            Edge.row(x, Edge.KNOTS, 5, 0);
            Edge.row(x, Edge.FLIES, 1, 1);
        });
        Edge.test("CUT: it flies no more, HEIGHT, PAID 0, all else stays", () -> {
            KiteVote x = Edge.on("fb9;as3;kw3l30h5o1g2m1;kp1w3h5x9");
            x.go(2);
            int[] cut = {0, 3, 30, 0, 0, 1, 0, 2, 1, 18, 0, 0};
            for (int what = 0; what < cut.length; what++) {
                Due.is("kite(0, " + what + ")", x.kite(0, what), cut[what]);
            }
        });
        Edge.test("all CUTS at once: two by one another", () -> {
            KiteVote x = Edge.on("as3;kw3h5;kw3h5");
            x.go(9);
            Due.is("count(1)", x.count(1), 2);
            x.go(1);
            Due.is("count(1)", x.count(1), 0);
            Edge.row(x, Edge.WORN, 10, 10);
        });
        Edge.test("all CUTS at once: one that is CUT wears in that MINUTE", () -> {
            KiteVote x = Edge.on("as3;kp5w3h5;kp6w3h5x1;kp4w3h5x1", null, "y:a=0?5;y:b=0?1;y:0");
            x.go(1);
            Edge.row(x, Edge.FLIES, 0, 1, 1);
            Edge.row(x, Edge.WORN, 10, 1, 1);
        });
        Edge.test("CUT with nobody near, when a KNOT makes its line bear less", () -> {
            KiteVote x = Edge.on("as3;kw3h5;kw3h5");
            x.go(6);
            x.move(1, 1);
            x.splice(1, 0, 1);
            Edge.row(x, Edge.FLIES, 1, 1);
            x.go(1);
            Edge.row(x, Edge.FLIES, 1, 1);
            x.splice(1, 0, 1);
            Edge.row(x, Edge.FLIES, 1, 1);
            x.go(1);
            Edge.row(x, Edge.FLIES, 0, 1);
        });
    }

    /** Kite 0, WORN by 1 a MINUTE, is cut behind so many, and not one earlier. */
    private static void bears(int knots, int minutes) {
        KiteVote x = Edge.on("as3;kw3h5;kw3h5x1", null, "y:a=0?1;y:0");
        for (int i = 0; i < knots; i++) {
            x.splice(1, 0, 1);
        }
        Edge.row(x, Edge.KNOTS, knots, 0);
        for (int i = 1; i <= minutes; i++) {
            x.go(1);
            Due.is("flies behind " + i, x.kite(0, Edge.FLIES), i < minutes ? 1 : 0);
        }
    }

    private static void results() {
        Edge.test("FEET: three times HEIGHT", () -> {
            Due.is("feet(0)", Edge.on("kh7;kp3h1").feet(0), 24);
            Due.is("feet(0) of 0", Edge.on("k").feet(0), 0);
            Due.is("feet(1) of eight at 99", Edge.on("kl99h99o1;kl99h99o1;kl99h99o1;kl99h99o1;kl99h99o1;kl99h99o1;"
                + "kl99h99o1;kl99h99o1").feet(1), 2376);
        });
        Edge.test("FEET by OPINIONS", () -> {
            KiteVote x = Edge.on("kh1;kh2o1;kh4o2;kh8o1");
            Due.is("feet(0)", x.feet(0), 3);
            Due.is("feet(1)", x.feet(1), 30);
            Due.is("feet(2)", x.feet(2), 12);
        });
        Edge.test("FEET: of all that fly", () -> {
            Due.is("feet(0)", Edge.cutOne().feet(0), 15);
            Due.is("feet(0) of nobody", Edge.nobody().feet(0), 0);
        });
        Edge.test("RESULT 1: more than MAJORITY, not as much", () -> {
            Due.is("half of 50", Edge.on("fm50;kh4o1;kh4").result(), 0);
            Due.is("half of 49", Edge.on("fm49;kh4o1;kh4").result(), 1);
            Due.is("half of 51", Edge.on("fm51;kh4o1;kh4").result(), 0);
            Due.is("a foot above half", Edge.on("fm50;kh5o1;kh4").result(), 1);
            Due.is("a third of 33", Edge.on("fm33;kh1o1;kh2").result(), 1);
            Due.is("a third of 34", Edge.on("fm34;kh1o1;kh2").result(), 0);
        });
        Edge.test("RESULT by MAJORITY 0", () -> {
            Due.is("one for yea", Edge.on("fm0;kl99h99;kh1o1").result(), 1);
            Due.is("none for yea", Edge.on("fm0;kh1;ko1").result(), 0);
        });
        Edge.test("RESULT by MAJORITY 99", () -> {
            Due.is("all for yea", Edge.on("fm99;kh1o1").result(), 1);
            Due.is("99 of 100", Edge.on("fm99;kl99h99o1;kh1").result(), 0);
            Due.is("198 of 199", Edge.on("fm99;kl99h99o1;kl99h99o1;kh1").result(), 1);
        });
        Edge.test("RESULT 2 CALM, if these are 0", () -> {
            Due.is("all low", Edge.on("k;ko1").result(), 2);
            Due.is("ABSTAINING alone", Edge.on("kh9o2;ko1").result(), 2);
            Due.is("nobody", Edge.nobody().result(), 2);
            Due.is("MAJORITY 0", Edge.on("fm0;k").result(), 2);
            Due.is("a foot for nay", Edge.on("kh1").result(), 0);
            Due.is("a foot for yea", Edge.on("kh1o1").result(), 1);
        });
        Edge.test("RESULT: who ABSTAINS is not counted", () -> {
            Due.is("beside yea", Edge.on("kh1o1;kl99h99o2").result(), 1);
            Due.is("beside nay", Edge.on("kh1;kl99h99o2").result(), 0);
        });
    }

    private static void hands() {
        Edge.test("WAX, one more (9 at most)", () -> {
            KiteVote x = Edge.on("kx8;kx9;k");
            Due.is("wax(0)", x.wax(0), 9);
            Edge.refused(x, "wax(1)", () -> x.wax(1), NONE);
            Due.is("wax(2)", x.wax(2), 1);
            Edge.row(x, Edge.WAX, 9, 9, 1);
        });
        Edge.test("WAX: once for each KITE in a sitting", () -> {
            KiteVote x = Edge.on("fb2;k;k");
            Due.is("wax(0)", x.wax(0), 1);
            Edge.refused(x, "wax(0) again", () -> x.wax(0), NONE);
            Due.is("wax(1)", x.wax(1), 1);
            x.go(2);
            Edge.refused(x, "wax(0) at the BELL", () -> x.wax(0), NONE);
        });
        Edge.test("MOVES one PLACE left or right: the first PLACE", () -> {
            KiteVote x = Edge.on("fw3;kp1");
            Due.is("move(0, -1)", x.move(0, -1), 0);
            Edge.refused(x, "move(0, -1)", () -> x.move(0, -1), NONE);
        });
        Edge.test("MOVES one PLACE left or right: the last PLACE", () -> {
            KiteVote x = Edge.on("fw3;kp1");
            Due.is("move(0, 1)", x.move(0, 1), 2);
            Edge.refused(x, "move(0, 1)", () -> x.move(0, 1), NONE);
            KiteVote y = Edge.on("kp18");
            Due.is("move(0, 1)", y.move(0, 1), 19);
            Edge.refused(y, "move(0, 1)", () -> y.move(0, 1), NONE);
        });
        Edge.test("MOVES into a free one", () -> {
            KiteVote x = Edge.on("kp1;kp2;kp4");
            Edge.refused(x, "move(0, 1)", () -> x.move(0, 1), NONE);
            Edge.refused(x, "move(1, -1)", () -> x.move(1, -1), NONE);
            Due.is("move(1, 1)", x.move(1, 1), 3);
            Edge.refused(x, "move(1, 1)", () -> x.move(1, 1), NONE);
            Due.is("move(0, 1)", x.move(0, 1), 2);
        });
        Edge.test("MOVES: CUT ones hold none", () -> {
            KiteVote x = Edge.cutOne();
            Due.is("move(1, -1)", x.move(1, -1), 0);
            Edge.row(x, Edge.PLACE, 0, 0);
        });
        Edge.test("some of its LINE (not of what is PAID)", () -> {
            KiteVote x = Edge.on("kl20h5;kl0;kl7h7");
            Edge.refused(x, "splice(0, 1, 16)", () -> x.splice(0, 1, 16), NONE);
            Edge.refused(x, "splice(2, 1, 1)", () -> x.splice(2, 1, 1), NONE);
            Due.is("splice(0, 1, 15)", x.splice(0, 1, 15), 15);
            Edge.refused(x, "splice(0, 1, 1)", () -> x.splice(0, 1, 1), NONE);
            Edge.row(x, Edge.LINE, 5, 15, 7);
            Edge.row(x, Edge.PAID, 5, 0, 7);
        });
        Edge.test("has it more (99 at most in all)", () -> {
            KiteVote x = Edge.on("kl20;kl95;kl99");
            Edge.refused(x, "splice(0, 1, 5)", () -> x.splice(0, 1, 5), NONE);
            Edge.refused(x, "splice(0, 2, 1)", () -> x.splice(0, 2, 1), NONE);
            Due.is("splice(0, 1, 4)", x.splice(0, 1, 4), 99);
            Edge.row(x, Edge.LINE, 16, 99, 99);
        });
        Edge.test("and a KNOT: the other one alone, one each time", () -> {
            KiteVote x = Edge.on("k;k");
            x.splice(0, 1, 9);
            Edge.row(x, Edge.KNOTS, 0, 1);
            x.splice(0, 1, 1);
            Edge.row(x, Edge.KNOTS, 0, 2);
            x.splice(1, 0, 1);
            Edge.row(x, Edge.KNOTS, 1, 2);
        });
        Edge.test("another one of its CLAN: 0 is one, too", () -> {
            KiteVote x = Edge.on("k;k;kg1;kg4;kg4");
            Due.is("splice(0, 1, 1)", x.splice(0, 1, 1), 41);
            Edge.refused(x, "splice(0, 2, 1)", () -> x.splice(0, 2, 1), NONE);
            Edge.refused(x, "splice(2, 3, 1)", () -> x.splice(2, 3, 1), NONE);
            Due.is("splice(3, 4, 1)", x.splice(3, 4, 1), 41);
        });
        Edge.test("By hand: at the BELL, too", () -> {
            KiteVote x = Edge.on("fb1;k;kp5");
            x.go(1);
            Due.is("mode", x.mode(0, 1), true);
            Due.is("wax", x.wax(0), 1);
            Due.is("move", x.move(0, 1), 1);
            Due.is("splice", x.splice(0, 1, 1), 41);
            Due.is("talk", x.talk(0, 1), true);
        });
    }

    private static void sittings() {
        Edge.test("SIT: at the BELL", () -> {
            KiteVote x = Edge.on("fb2;kh3l9");
            Edge.refused(x, "sit() at 0", x::sit, NONE);
            x.go(1);
            Edge.refused(x, "sit() one ahead", x::sit, NONE);
            x.go(1);
            Due.is("sit() at the BELL", x.sit(), 2);
        });
        Edge.test("SIT: a BOOK of 40", () -> {
            KiteVote x = Edge.on("fb1;as3;kw3h5o1");
            for (int i = 0; i < 40; i++) {
                x.go(1);
                Due.is("sit " + i, x.sit(), 1);
                Due.is("count(10)", x.count(10), i + 1);
            }
            x.go(1);
            Edge.refused(x, "sit 40", x::sit, NONE);
            Due.is("count(7)", x.count(7), 1);
        });
        Edge.test("SIT: the LAW is 0 at first", () -> Due.is("count(9)", Edge.on("kh9o1").count(9), 0));
        Edge.test("SIT: the LAW as the RESULT", () -> {
            KiteVote x = Edge.on("fb1;as3;kw3h5o1");
            x.go(1);
            Due.is("count(9) before", x.count(9), 0);
            Due.is("sit()", x.sit(), 1);
            Due.is("count(9)", x.count(9), 1);
            x.talk(0, 0);
            x.go(1);
            Due.is("sit()", x.sit(), 0);
            Due.is("count(9)", x.count(9), 0);
        });
        Edge.test("SIT: a CALM: the LAW stays as it was", () -> {
            KiteVote x = Edge.on("fb1;as3;kw3h5o2");
            x.go(1);
            Due.is("sit()", x.sit(), 2);
            Due.is("count(9)", x.count(9), 0);
            x.talk(0, 1);
            x.go(1);
            x.sit();
            x.talk(0, 2);
            x.go(1);
            Due.is("sit()", x.sit(), 2);
            Due.is("count(9)", x.count(9), 1);
        });
        Edge.test("SIT: MINUTE 0 again", () -> {
            KiteVote x = Edge.on("fb2;as3;kw3h5");
            x.go(2);
            x.sit();
            Due.is("count(7)", x.count(7), 0);
            Due.is("go(2)", x.go(2), 2);
        });
        Edge.test("SIT: all may be WAXED again", () -> {
            KiteVote x = Edge.on("fb1;k;k;k;k;k;k;k;k");
            for (int i = 0; i < 8; i++) {
                x.wax(i);
            }
            x.go(1);
            x.sit();
            for (int i = 0; i < 8; i++) {
                Due.is("wax(" + i + ")", x.wax(i), 2);
            }
        });
        Edge.test("SIT: all else stays", () -> {
            KiteVote x = Edge.on("fb2;as3;kw3h5m1;kw3h5x1o1;kp9w3h4g1o2");
            x.go(2);
            x.sit();
            Edge.row(x, Edge.PAID, 15, 5, 4);
            Edge.row(x, Edge.HEIGHT, 5, 5, 4);
            Edge.row(x, Edge.WORN, 4, 0, 0);
            Edge.row(x, Edge.MODE, 1, 0, 0);
            Edge.row(x, Edge.OPINION, 0, 1, 2);
        });
        Edge.test("SIT: who is CUT stays so", () -> {
            KiteVote x = Edge.cutOne();
            x.go(7);
            Due.is("sit()", x.sit(), 0);
            Edge.row(x, Edge.FLIES, 0, 1);
        });
    }

    private static void acts() {
        Edge.test("ACTS: each one by hand", () -> {
            KiteVote x = Edge.on("fb1;k;kp5");
            x.mode(0, 1);
            Due.is("behind MODE", x.count(12), 1);
            x.wax(0);
            Due.is("behind WAX", x.count(12), 2);
            x.move(0, 1);
            Due.is("behind MOVES", x.count(12), 3);
            x.splice(0, 1, 1);
            Due.is("behind LINE", x.count(12), 4);
            x.talk(0, 1);
            Due.is("behind TALK", x.count(12), 5);
            x.go(1);
            Due.is("behind a MINUTE", x.count(12), 6);
            x.sit();
            Due.is("behind SIT", x.count(12), 7);
        });
        Edge.test("ACTS (each MINUTE): of MINUTES", () -> {
            KiteVote x = Edge.on("as5;kw3l60h2m1");
            x.go(3);
            Due.is("count(12)", x.count(12), 3);
            Due.is("undo()", x.undo(), 2);
            Due.is("count(7)", x.count(7), 2);
            Edge.row(x, Edge.HEIGHT, 6);
        });
        Edge.test("ACTS (each MINUTE): of GUSTS", () -> {
            KiteVote x = Edge.on("as5;kw3l60h2m1");
            x.gusts(3, 5);
            Due.is("count(12)", x.count(12), 3);
            Due.is("undo()", x.undo(), 2);
            Due.is("count(7)", x.count(7), 2);
            Edge.row(x, Edge.HEIGHT, 6);
        });
        Edge.test("ACTS: nothing else is one", () -> {
            KiteVote x = Edge.on("fb5;as5;kw3h5;kp5");
            x.gust(5);
            x.see(0, 1, 1);
            x.image();
            Due.feed(x, "y:1");
            x.text(1);
            x.holds(0, 0);
            x.end(0);
            x.bell(0);
            x.timing(0, 0);
            x.rests(0, 1, NONE);
            Due.is("count(12)", x.count(12), 0);
        });
        Edge.test("the latest 40 can be UNDONE: 40", () -> {
            KiteVote x = Edge.on("fb60;as3;kw3h5");
            x.go(40);
            Due.is("count(12)", x.count(12), 40);
            for (int i = 39; i >= 0; i--) {
                Due.is("undo()", x.undo(), i);
                Due.is("count(7)", x.count(7), i);
            }
            Edge.refused(x, "undo()", x::undo, NONE);
        });
        Edge.test("the latest 40 can be UNDONE: of 41 the first stays", () -> {
            KiteVote x = Edge.on("fb60;as3;kw3h5");
            x.go(41);
            Due.is("count(12)", x.count(12), 40);
            for (int i = 39; i >= 0; i--) {
                Due.is("undo()", x.undo(), i);
            }
            Due.is("count(7)", x.count(7), 1);
            Edge.refused(x, "undo()", x::undo, NONE);
        });
        Edge.test("the latest 40 can be UNDONE: again behind some that were", () -> {
            KiteVote x = Edge.on("fb60;as3;kw3h5");
            x.go(50);
            for (int i = 0; i < 25; i++) {
                x.undo();
            }
            Due.is("count(7)", x.count(7), 25);
            x.go(30);
            Due.is("count(12)", x.count(12), 40);
            for (int i = 39; i >= 0; i--) {
                Due.is("undo()", x.undo(), i);
                Due.is("count(7)", x.count(7), 15 + i);
            }
            Due.is("undo()", x.undo(), NONE);
        });
        Edge.test("UNDONE one by one: the latest first", () -> {
            KiteVote x = Edge.on("k;kp5");
            x.talk(0, 1);
            x.talk(0, 2);
            x.mode(1, 2);
            x.undo();
            Edge.row(x, Edge.MODE, 0, 0);
            Edge.row(x, Edge.OPINION, 2, 0);
            x.undo();
            Edge.row(x, Edge.OPINION, 1, 0);
            x.undo();
            Edge.row(x, Edge.OPINION, 0, 0);
        });
        Edge.test("UNDONE: a CUT, a SIT, a WAX", () -> {
            KiteVote x = Edge.cutOne();
            x.undo();
            Edge.row(x, Edge.FLIES, 1, 1);
            Edge.row(x, Edge.WORN, 9, 0);
            Edge.row(x, Edge.HEIGHT, 5, 5);
            Edge.row(x, Edge.PAID, 5, 5);
            x = Edge.on("fb1;as3;kw3h5o1");
            x.wax(0);
            x.go(1);
            x.sit();
            x.undo();
            Due.is("count(7)", x.count(7), 1);
            Due.is("count(9)", x.count(9), 0);
            Due.is("count(10)", x.count(10), 0);
            Due.is("book(0)", x.book(0), NONE);
            Due.is("wax(0)", x.wax(0), NONE);
            x.undo();
            x.undo();
            Due.is("wax(0)", x.wax(0), 1);
        });
        Edge.test("UNDONE: what is no ACT stays", () -> {
            KiteVote x = Edge.on("k;kp5");
            x.talk(0, 1);
            x.gust(7);
            x.see(0, 1, 1);
            Due.feed(x, "y:1");
            x.text(1);
            x.holds(1, 0);
            x.undo();
            Due.is("GUST", x.count(8), 7);
            Due.is("SEEN", x.count(11), 1);
            Due.is("LAWS", x.count(3), 1);
            Due.is("the LAW of WEAR", x.count(6), 0);
        });
    }
}
