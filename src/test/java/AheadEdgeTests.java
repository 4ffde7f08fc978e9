/** The edges that the Terms name under ==== 3. and ==== 4., but for GUSTS: what is ahead, who decides, what was seen, images. */
public final class AheadEdgeTests {
    private static final int NONE = KiteVote.NONE;
    private static final int HIDDEN = KiteVote.HIDDEN;

    private AheadEdgeTests() {
    }

    public static void main(String[] args) {
        tests();
        Due.close();
    }

    static void tests() {
        aheads();
        firstCuts();
        calms();
        timings();
        stands();
        crosses();
        preys();
        powers();
        talks();
        contents();
        ringers();
        duels();
        clans();
        spares();
        seen();
        images();
    }

    private static void aheads() {
        Edge.test("(Apart, from as it is, MINUTES by hand.)", () -> {
            KiteVote x = Edge.on("fb9r4;as5;kw3l30m1o1;kp3w5h9;kp4w4h7");
            x.go(2);
            x.gust(99);
            String before = Edge.shows(x);
            Due.is("ahead(0, 3, 0)", x.ahead(0, 3, 0), 10);
            x.bell(0);
            x.cut(0);
            x.calm();
            x.timing(0, 0);
            x.stand(0, 0);
            x.cross(0, 1);
            x.prey(0);
            x.talked();
            x.content(5);
            x.ringer(0);
            x.duel(0, 1, 1, 2);
            x.rests(0, 1, NONE);
            x.clan(0, 1);
            x.weighs(0);
            Due.is("all is as it was", Edge.shows(x).equals(before), true);
        });
        Edge.test("AHEAD: behind n MINUTES (as many as are left at most)", () -> {
            KiteVote x = Edge.on("fb3r4;as5;kw3l10m1");
            Due.is("ahead(0, 1, 0)", x.ahead(0, 1, 0), 2);
            Due.is("ahead(0, 3, 0)", x.ahead(0, 3, 0), 6);
            Due.is("ahead(0, 3, 1)", x.ahead(0, 3, 1), 10);
            Due.is("ahead(0, 4, 0)", x.ahead(0, 4, 0), NONE);
            x.go(2);
            Due.is("ahead(0, 1, 0)", x.ahead(0, 1, 0), 6);
            Due.is("ahead(0, 2, 0)", x.ahead(0, 2, 0), NONE);
        });
        Edge.test("AHEAD: behind 0 MINUTES it is as it is", () -> {
            KiteVote x = Edge.on("fb1;as5;kw3h7");
            Due.is("ahead(0, 0, 0)", x.ahead(0, 0, 0), 7);
            Due.is("ahead(0, 0, 1)", x.ahead(0, 0, 1), 7);
            Due.is("ahead(0, 0, 2)", x.ahead(0, 0, 2), 0);
            Due.is("ahead(0, 0, 3)", x.ahead(0, 0, 3), 1);
            x.go(1);
            Due.is("ahead(0, 0, 0) at the BELL", x.ahead(0, 0, 0), 7);
            Due.is("ahead(0, 1, 0) at the BELL", x.ahead(0, 1, 0), NONE);
        });
        Edge.test("AHEAD: WORN, whether it flies, about a CUT", () -> {
            KiteVote x = Edge.on("fb9;as3;kw3h5;kw3h5x9");
            int[][] due = {{5, 5, 0, 1}, {5, 5, 9, 1}, {0, 0, 18, 0}, {0, 0, 18, 0}};
            for (int n = 0; n < 4; n++) {
                for (int what = 0; what < 4; what++) {
                    Due.is("ahead(0, " + n + ", " + what + ")", x.ahead(0, n, what), due[n][what]);
                }
            }
        });
        Edge.test("AT THE BELL: it is the BELL", () -> {
            KiteVote x = Edge.on("fb1;as3;kw3h5o1;kp5w3h4");
            x.go(1);
            Due.is("bell(0)", x.bell(0), 1);
            Due.is("bell(1)", x.bell(1), 12);
            Due.is("bell(2)", x.bell(2), 15);
        });
        Edge.test("AT THE BELL: all MINUTES that are left, no more", () -> {
            KiteVote x = Edge.on("fb60r9;as2;kw1m1l99o1;kp5w2h20");
            Due.is("bell(2)", x.bell(2), 180);
            Due.is("bell(1)", x.bell(1), 60);
            x.go(59);
            Due.is("bell(2)", x.bell(2), 180);
            x.mode(0, 2);
            Due.is("bell(2)", x.bell(2), 180);
        });
        Edge.test("AT THE BELL: a CALM", () ->
            Due.is("bell(0)", Edge.on("fb1;as1;kw3h2o1;kp5w9h6").bell(0), 2));
    }

    private static void firstCuts() {
        Edge.test("FIRST CUT: of several in one MINUTE the lowest", () -> {
            Due.is("cut(0)", Edge.on("as3;kp5w3h5;kp4w3h5").cut(0), 0);
            Due.is("cut(0)", Edge.on("as3;kp9w3h5;kp5w3h5;kp4w3h5").cut(0), 1);
        });
        Edge.test("FIRST CUT: the first of several MINUTES", () -> {
            KiteVote x = Edge.on("as3;kp9w3h5;kp10w3h5;kp5w3h5x5;kp4w3h5");
            Due.is("cut(0)", x.cut(0), 3);
            Due.is("cut(1)", x.cut(1), 2);
        });
        Edge.test("FIRST CUT: the MINUTE as it is behind that (1 on)", () -> {
            KiteVote x = Edge.on("as3;kw3h5;kw3h5");
            for (int i = 0; i < 3; i++) {
                x.splice(1, 0, 1);
            }
            Due.is("cut(1) in the first", x.cut(1), 1);
            Due.is("cut(0)", x.cut(0), 0);
            x = Edge.on("as3;kw3h5;kw3h5");
            x.go(4);
            Due.is("cut(1) from 4 on", x.cut(1), 10);
            x.go(5);
            Due.is("cut(1) from 9 on", x.cut(1), 10);
        });
        Edge.test("FIRST CUT before the BELL: in the last MINUTE", () -> {
            Due.is("cut(1)", Edge.on("fb10;as3;kw3h5;kw3h5").cut(1), 10);
            Due.is("cut(0)", Edge.on("fb10;as3;kw3h5;kw3h5").cut(0), 0);
        });
        Edge.test("FIRST CUT before the BELL: none is", () -> {
            Due.is("cut(1)", Edge.on("fb9;as3;kw3h5;kw3h5").cut(1), NONE);
            Due.is("cut(0)", Edge.on("fb9;as3;kw3h5;kw3h5").cut(0), NONE);
            KiteVote x = Edge.on("fb1;as3;kw3h5;kw3h5");
            x.go(1);
            Due.is("cut(0) at the BELL", x.cut(0), NONE);
        });
        Edge.test("FIRST CUT: who is CUT is it no more", () -> {
            Due.is("cut(0)", Edge.cutOne().cut(0), NONE);
            Due.is("cut(0) of nobody", Edge.nobody().cut(0), NONE);
        });
    }

    private static void calms() {
        Edge.test("CALMS (0: now)", () -> {
            Due.is("calm()", Edge.on("as9;km1;k").calm(), 0);
            KiteVote x = Edge.on("fb1;k");
            x.go(1);
            Due.is("calm() at the BELL", x.calm(), 0);
        });
        Edge.test("CALMS: first", () -> {
            KiteVote x = Edge.on("fb9;as1;an3s9;kw3h5;kp5w2h2");
            Due.is("calm()", x.calm(), 3);
            x.go(1);
            Due.is("calm() a MINUTE later", x.calm(), 2);
        });
        Edge.test("CALMS: all that fly, not one of them", () -> {
            Due.is("calm()", Edge.on("fb9;as1;kw3h1;kp5w1h1").calm(), NONE);
            Due.is("calm()", Edge.on("fb9;as1;kw2h1;kp5w2h7").calm(), 7);
        });
        Edge.test("CALMS at the BELL, not behind it", () -> {
            Due.is("at it", Edge.on("fb7;as1;kw2h7").calm(), 7);
            Due.is("behind it", Edge.on("fb6;as1;kw2h7").calm(), NONE);
        });
        Edge.test("CALMS: where nobody flies, all have HEIGHT 0", () -> {
            Due.is("then", Edge.on("fb10;as3;kw3h5;kw3h5").calm(), 10);
            Due.is("now", Edge.nobody().calm(), 0);
        });
    }

    private static void timings() {
        Edge.test("TIMING: 0 MINUTES", () -> {
            KiteVote x = Edge.on("fb3;as5;kw3");
            Due.is("timing(0, 0)", x.timing(0, 0), 0);
            Due.is("timing(0, 1)", x.timing(0, 1), 6);
        });
        Edge.test("TIMING: as many MINUTES as are left", () -> {
            KiteVote x = Edge.on("fb3;kl40h5", "y:p=5?0;y:0-9", null);
            Due.is("timing(0, 0)", x.timing(0, 0), 3);
            Due.is("timing(0, 1)", x.timing(0, 1), 5);
            x.go(1);
            Due.is("timing(0, 0) a MINUTE later", x.timing(0, 0), 2);
        });
        Edge.test("TIMING: one MINUTE less than are left", () -> {
            KiteVote x = Edge.on("fb4;kl40", "y:t=3&p=5?4;y:0", null);
            Due.is("timing(0, 0)", x.timing(0, 0), 3);
            Due.is("timing(0, 1)", x.timing(0, 1), 4);
        });
        Edge.test("TIMING: of several the fewest", () -> {
            KiteVote x = Edge.on("fb4;kl40", "y:t=3&p=5?4;y:t=3&p=10?4;y:0", null);
            Due.is("timing(0, 0)", x.timing(0, 0), 2);
            Due.is("timing(0, 1)", x.timing(0, 1), 4);
            x = Edge.on("fb5;as3;kw3h5");
            Due.is("timing(0, 0) of all alike", x.timing(0, 0), 0);
            Due.is("timing(0, 1) of all alike", x.timing(0, 1), 5);
        });
        Edge.test("TIMING: it holds till then, whatever it does now", () -> {
            KiteVote x = Edge.on("fb3;kl40h5m2;kp5h5m1", "y:p=5?0;y:0-9", null);
            Due.is("timing(0, 0)", x.timing(0, 0), 3);
            Due.is("timing(0, 1)", x.timing(0, 1), 5);
            Due.is("timing(1, 0)", x.timing(1, 0), 3);
            Due.is("timing(1, 1)", x.timing(1, 1), 5);
        });
        Edge.test("TIMING at the BELL", () -> {
            KiteVote x = Edge.on("fb1;as3;kw3h5");
            x.go(1);
            Due.is("timing(0, 0)", x.timing(0, 0), 0);
            Due.is("timing(0, 1)", x.timing(0, 1), 5);
        });
        Edge.test("TIMING: a CUT one has HEIGHT 0", () -> {
            KiteVote x = Edge.on("fb9;as3;kw3h5;kw3h5x9");
            Due.is("timing(0, 0)", x.timing(0, 0), 0);
            Due.is("timing(0, 1)", x.timing(0, 1), 0);
        });
    }

    private static void stands() {
        Edge.test("STAND: of several the lowest", () -> {
            KiteVote x = Edge.on("as3;kp9w3h5;kp0w3h5");
            Due.is("stand(0, 0)", x.stand(0, 0), 2);
            Due.is("stand(0, 1)", x.stand(0, 1), 5);
        });
        Edge.test("STAND: the PLACE, free or its own", () -> {
            KiteVote x = Edge.on("fw3;as3;kp1w3h5;kp0w3");
            Due.is("stand(0, 0) its own", x.stand(0, 0), 1);
            Due.is("stand(0, 1) its own", x.stand(0, 1), 5);
            x = Edge.on("fw4b4;as3;kp0w3h5;kp1w5h5x9;kp3w3");
            Due.is("stand(0, 0) the best held", x.stand(0, 0), 0);
            Due.is("stand(0, 1) the best held", x.stand(0, 1), 0);
        });
        Edge.test("STAND: no other PLACE there is", () -> {
            KiteVote x = Edge.on("fw1b2;as3;kw3h7");
            Due.is("stand(0, 0)", x.stand(0, 0), 0);
            Due.is("stand(0, 1)", x.stand(0, 1), 7);
        });
        Edge.test("STAND: the last PLACE, not one behind it", () -> {
            KiteVote x = Edge.on("fw4b4;as3;kp0w3h5;kp1w5h5x9");
            Due.is("stand(0, 0)", x.stand(0, 0), 3);
            Due.is("stand(0, 1)", x.stand(0, 1), 5);
            x = Edge.on("fw3b4;as3;kp0w3h5;kp1w5h5x9");
            Due.is("stand(0, 0) where it is CUT", x.stand(0, 0), 0);
            Due.is("stand(0, 1) where it is CUT", x.stand(0, 1), 0);
        });
        Edge.test("STAND: where a CUT one was", () -> {
            Due.is("stand(1, 0)", Edge.cutOne().stand(1, 0), 0);
            Due.is("stand(1, 1)", Edge.cutOne().stand(1, 1), 5);
        });
        Edge.test("STAND at the BELL", () -> {
            KiteVote x = Edge.on("fb1;as3;kp3w3h5");
            x.go(1);
            Due.is("stand(0, 0)", x.stand(0, 0), 0);
            Due.is("stand(0, 1)", x.stand(0, 1), 5);
        });
    }

    private static void crosses() {
        Edge.test("CROSS: 1 it is CUT before the BELL", () -> {
            Due.is("in the last MINUTE", Edge.on("fb2;as3;kw3h5;kp5w3h5x9").cross(0, 1), 1);
            Due.is("a MINUTE too late", Edge.on("fb1;as3;kw3h5;kp5w3h5x9").cross(0, 1), 0);
        });
        Edge.test("CROSS: 2 the other one is", () -> {
            Due.is("in the last MINUTE", Edge.on("fb2;as3;kw3h5;kp5w3h5x9").cross(1, 0), 2);
            Due.is("a MINUTE too late", Edge.on("fb1;as3;kw3h5;kp5w3h5x9").cross(1, 0), 0);
        });
        Edge.test("CROSS: 3 both", () -> {
            Due.is("in the last MINUTE", Edge.on("fb10;as3;kw3h5;kp5w3h5").cross(0, 1), 3);
            Due.is("a MINUTE too late", Edge.on("fb9;as3;kw3h5;kp5w3h5").cross(0, 1), 0);
        });
        Edge.test("CROSS: 0 none", () -> {
            Due.is("too far above", Edge.on("as3;kw3h15;kp5w3h5").cross(0, 1), 0);
            Due.is("one at 0", Edge.on("as3;kw3h0;kp5w3h5").cross(0, 1), 0);
            KiteVote x = Edge.on("fb1;as3;kw3h5;kp5w3h5");
            x.go(1);
            Due.is("at the BELL", x.cross(0, 1), 0);
        });
        Edge.test("CROSS: in the lowest free PLACE next to that one", () ->
            Due.is("cross(0, 1)", Edge.on("fb3;as3;kp0w3h5x5;kp9w3h5;kp7w3h5x8").cross(0, 1), 3));
        Edge.test("CROSS: the lower PLACE is held", () ->
            Due.is("cross(0, 1)", Edge.on("fb2;as3;kp0w3h5x9;kp9w3h5;kp8w3").cross(0, 1), 2));
        Edge.test("CROSS: no lower PLACE, that one is in the first", () -> {
            Due.is("cross(0, 1)", Edge.on("fb2;as3;kp5w3h5x9;kp0w3h5").cross(0, 1), 2);
            Due.is("cross(0, 1)", Edge.on("fb2;as3;kp5w3h5x9;kp0w3h5;kp1w3").cross(0, 1), NONE);
        });
        Edge.test("CROSS: no higher PLACE, that one is in the last", () -> {
            Due.is("cross(0, 1)", Edge.on("fw3b2;as3;kp0w3h5x9;kp2w3h5").cross(0, 1), 2);
            Due.is("cross(0, 1)", Edge.on("fw3b2;as3;kp0w3h5x9;kp2w3h5;kp1w3").cross(0, 1), NONE);
            Due.is("cross(0, 1)", Edge.on("fb2;as3;kp0w3h5x9;kp19w3h5;kp18w3").cross(0, 1), NONE);
        });
        Edge.test("CROSS: no free PLACE on either side", () ->
            Due.is("cross(0, 1)", Edge.on("fb2;as3;kp0w3h5x9;kp5w3h5;kp4w3;kp6w3").cross(0, 1), NONE));
        Edge.test("CROSS: or where it is, if it is next to it", () -> {
            Due.is("above", Edge.on("fb2;as3;kp6w3h5x9;kp5w3h5;kp4w3").cross(0, 1), 2);
            Due.is("below", Edge.on("fb2;as3;kp4w3h5x9;kp5w3h5;kp6w3").cross(0, 1), 2);
            Due.is("above, the lower PLACE free", Edge.on("fb3;as3;kp6w3h5x5;kp5w3h5;kp3w3h5x8").cross(0, 1), 2);
        });
        Edge.test("CROSS: a CUT one holds no PLACE", () -> {
            KiteVote x = Edge.on("fb9;as3;kp2w3h5;kp3w3h5x9;kp19w3h5x9;kp4w3");
            x.go(2);
            Edge.row(x, Edge.FLIES, 0, 1, 1, 1);
            Due.is("cross(2, 1)", x.cross(2, 1), 0);
        });
    }

    private static void preys() {
        Edge.test("PREY: without being CUT itself", () -> {
            Due.is("both are", Edge.on("fb10;as3;kw3h5;kp5w3h5").prey(0), 0);
            Due.is("the other one alone", Edge.on("fb10;as3;kw3h5x1;kp5w3h5").prey(0), 2);
            Due.is("it alone", Edge.on("fb10;as3;kw3h5;kp5w3h5x1").prey(0), 0);
        });
        Edge.test("PREY (bits): of eight all others", () -> {
            String field = "fb3;as3;kp0w3h5x9;kp3w3h5;kp6w3h5;kp9w3h5;kp12w3h5;kp15w3h5;kp17w3h5;kp19w3h5";
            Due.is("prey(0)", Edge.on(field).prey(0), 254);
            Due.is("prey(1)", Edge.on(field).prey(1), 0);
            field = "fb3;as3;kp0w3h5;kp3w3h5;kp6w3h5;kp9w3h5;kp12w3h5;kp15w3h5;kp17w3h5;kp19w3h5x9";
            Due.is("prey(7)", Edge.on(field).prey(7), 127);
        });
        Edge.test("PREY: none that it cannot get next to, none that is CUT", () -> {
            Due.is("no free PLACE", Edge.on("fb3;as3;kp0w3h5x9;kp5w3h5;kp4w3;kp6w3").prey(0), 0);
            Due.is("CUT", Edge.cutOne().prey(1), 0);
            Due.is("alone", Edge.on("as3;kw3h5").prey(0), 0);
        });
    }

    private static void powers() {
        Edge.test("POWER: more than MAJORITY, not as much", () -> {
            KiteVote x = Edge.on("fm25;kh1;kh3");
            Due.is("power(0)", x.power(0), 0);
            Due.is("power(1)", x.power(1), 2);
            x = Edge.on("fm24;kh1;kh3");
            Due.is("power(0)", x.power(0), 1);
            Due.is("power(1)", x.power(1), 1);
        });
        Edge.test("POWER: over all sets of the others, the empty one too", () -> {
            Due.is("alone", Edge.on("kh1").power(0), 1);
            Due.is("MAJORITY 0", Edge.on("fm0;kh5;kh5;kh5").power(0), 1);
        });
        Edge.test("POWER: over all sets of the others, the full one too", () ->
            Due.is("MAJORITY 99", Edge.on("fm99;kh5;kh5;kh5").power(1), 1));
        Edge.test("POWER: of eight", () -> {
            Due.is("power(0)", Edge.on("kh1;kh1;kh1;kh1;kh1;kh1;kh1;kh1").power(0), 35);
            Due.is("power(7)", Edge.on("kh1;kh1;kh1;kh1;kh1;kh1;kh1;kh1").power(7), 35);
            Due.is("power(7) of all sets", Edge.on("k;k;k;k;k;k;k;kh1").power(7), 128);
        });
        Edge.test("POWER: where all is low", () -> {
            Due.is("power(0)", Edge.on("k;k").power(0), 0);
            Due.is("power(0) by MAJORITY 0", Edge.on("fm0;k;kh1").power(0), 0);
        });
        Edge.test("POWER by HEIGHTS now", () -> {
            KiteVote x = Edge.on("as9;kw1m1;kh5");
            Due.is("power(0)", x.power(0), 0);
            Due.is("power(1)", x.power(1), 2);
        });
        Edge.test("POWER: of all that fly, whatever their OPINION", () -> {
            Due.is("power(0)", Edge.on("kh5o2;kh5o1;kh5").power(0), 2);
            Due.is("power(1) beside a CUT one", Edge.cutOne().power(1), 1);
        });
    }

    private static void talks() {
        Edge.test("TALKED over: none can be enough", () ->
            Due.is("talked()", Edge.on("fb1;as3;kw3h5o1;kp5w3h4").talked(), 0));
        Edge.test("TALKED over: the fewest", () ->
            Due.is("talked()", Edge.on("fb1m30;as3;kw3h8;kp5w3h8;kp9w3h20").talked(), 4));
        Edge.test("TALKED over: of several the least", () -> {
            Due.is("one of two", Edge.on("fb1;as3;kw3h5;kp5w3h5;kp9w3h1o1").talked(), 1);
            Due.is("two of four", Edge.on("fb1;as3;kw3h5;kp5w3h6;kp9w3h4;kp12w3h7").talked(), 9);
        });
        Edge.test("TALKED over: all eight", () ->
            Due.is("talked()", Edge.on("fb1m99;kh9;kh9;kh9;kh9;kh9;kh9;kh9;kh9", "y:0", "y:0").talked(), 255));
        Edge.test("TALKED over: none is enough", () -> {
            Due.is("all low", Edge.on("fb1;k;ko1").talked(), NONE);
            Due.is("nobody flies", Edge.nobody().talked(), NONE);
            Due.is("all low at the BELL", Edge.on("fb2;as1;kw3h4").talked(), NONE);
        });
        Edge.test("TALKED over: more than MAJORITY, not as much", () -> {
            Due.is("half", Edge.on("fb1;as3;kw3h5;kp5w3h5").talked(), 3);
            Due.is("half of 49", Edge.on("fb1m49;as3;kw3h5;kp5w3h5").talked(), 1);
        });
        Edge.test("TALKED over: who ABSTAINS and is not is not counted", () -> {
            Due.is("beside a high one", Edge.on("fb1;as3;kw3h9;kp5w3h1o1;kp9w3h20o2").talked(), 1);
            Due.is("none can be enough", Edge.on("fb1;as3;kw3h1o1;kp9w3h20o2").talked(), 0);
        });
        Edge.test("TALKED over: who ABSTAINS can be", () -> {
            Due.is("one", Edge.on("fb1;as3;kw3h9o2").talked(), 1);
            Due.is("the higher one", Edge.on("fb1m60;as3;kw3h9;kp5w3h6;kp9w3h30o2").talked(), 4);
        });
        Edge.test("TALKED over: who flies now, as high as at the BELL", () -> {
            Due.is("one that will be CUT", Edge.on("fb9;as3;kw3h9;kw3h3x9;kp5w3h2").talked(), 2);
            Due.is("one that is CUT", Edge.cutOne().talked(), 2);
        });
    }

    private static void contents() {
        Edge.test("CONTENT with a BELL (1 .. 60)", () -> {
            KiteVote x = Edge.on("fb1;as3;an59s9;kw3h1o1l9m1;kp5w3h2l2");
            Due.is("content(1)", x.content(1), 1);
            Due.is("content(59)", x.content(59), 1);
            x = Edge.on("fb1;an59s9;kw3m1o1;kp5w3");
            Due.is("content(59) of a CALM", x.content(59), 0);
            Due.is("content(60) carried", x.content(60), 1);
        });
        Edge.test("CONTENT: a BELL too small, too large", () -> {
            KiteVote x = Edge.on("kh5");
            Due.is("content(0)", x.content(0), NONE);
            Due.is("content(61)", x.content(61), NONE);
            Due.is("content(1)", x.content(1), 1);
            Due.is("content(60)", x.content(60), 0);
        });
        Edge.test("CONTENT: from MINUTE 0", () -> {
            KiteVote x = Edge.on("fb9;as3;an5s0;kw3h8o1;kp5w3h7");
            x.go(4);
            Due.is("content(5)", x.content(5), 1);
            Due.is("content(6)", x.content(6), 1);
            x = Edge.on("fb9;an1s9;kw3l9h1o1m1;kp5w9h1");
            Due.is("content(1) in the first MINUTE", x.content(1), 0);
        });
        Edge.test("CONTENT: all as it is now but the MINUTE", () -> {
            KiteVote x = Edge.on("fb2;as3;an1s5;kw3h5o1;kp5w3h4l9m1");
            x.go(2);
            Edge.row(x, Edge.HEIGHT, 5, 6);
            Due.is("content(1)", x.content(1), 1);
            Edge.row(x, Edge.HEIGHT, 5, 6);
            Due.is("count(7)", x.count(7), 2);
        });
        Edge.test("CONTENT: not ABSTAINING, in a CALM neither", () -> {
            Due.is("a CALM", Edge.on("ko2;kp5o2").content(1), 0);
            Due.is("carried", Edge.on("as3;kw3h5o2;kp5w3h5o1").content(1), 1);
        });
        Edge.test("CONTENT: (a CALM: none)", () -> Due.is("content(1)", Edge.on("k;ko1").content(1), 0));
        Edge.test("CONTENT: yea 1, nay 0", () -> {
            Due.is("carried", Edge.on("as3;kw3h5o1;kp5w3h4;kp9w3o1").content(1), 2);
            Due.is("not carried", Edge.on("as3;kw3h5;kp5w3h4o1;kp9w3o1").content(1), 1);
        });
        Edge.test("CONTENT: KITES that fly now", () -> {
            Due.is("with one that will be CUT", Edge.on("fb9;as3;kw3h5o1;kw3h5o1x9").content(2), 2);
            Due.is("without one that is CUT", Edge.cutOne().content(3), 1);
            Due.is("of nobody", Edge.nobody().content(3), 0);
        });
    }

    private static void ringers() {
        Edge.test("RINGER: of several the least", () -> {
            KiteVote x = Edge.on("as3;kw3h5o1");
            Due.is("ringer(0)", x.ringer(0), 1);
            Due.is("ringer(1)", x.ringer(1), 1);
            x = Edge.on("as1;an3s9;kw3m1o1");
            Due.is("ringer(0)", x.ringer(0), 4);
            Due.is("ringer(1)", x.ringer(1), 1);
        });
        Edge.test("RINGER: the BELL 60, not one behind it", () -> {
            KiteVote x = Edge.on("fb1;an59s9;kw3m1");
            Due.is("ringer(0)", x.ringer(0), 60);
            Due.is("ringer(1)", x.ringer(1), 1);
            x.go(1);
            Due.is("ringer(0) a MINUTE later", x.ringer(0), 60);
            x = Edge.on("fb1;an60s9;kw3m1");
            Due.is("ringer(0)", x.ringer(0), 1);
            Due.is("ringer(1)", x.ringer(1), 0);
        });
        Edge.test("RINGER: where none is content, the least", () -> {
            Due.is("ringer(0)", Edge.on("k;ko1").ringer(0), 1);
            Due.is("ringer(1)", Edge.on("k;ko1").ringer(1), 0);
            Due.is("ringer(0) of nobody", Edge.nobody().ringer(0), 1);
        });
        Edge.test("RINGER: from MINUTE 0, whatever is left", () -> {
            KiteVote x = Edge.on("fb1;as3;kw3h5;kp5w1h3m1o1;kp9w1h3m1o1");
            x.go(1);
            Due.is("ringer(0)", x.ringer(0), 1);
            Due.is("ringer(1)", x.ringer(1), 2);
        });
    }

    /** Both rise by 2 a MINUTE from when they begin; kite 2 never does. */
    private static KiteVote game() {
        return Edge.on("fb3r5;as5;kw3;kp5w3m2;kp9w9");
    }

    private static void duels() {
        Edge.test("DUEL: behind 0 .. 5 MINUTES", () -> {
            KiteVote x = Edge.on("fb6r5;as5;kw3;kp5w3m2");
            for (int a = 0; a <= 5; a++) {
                for (int b = 0; b <= 5; b++) {
                    Due.is("duel(0, 1, " + a + ", " + b + ")", x.duel(0, 1, a, b), 2 * (b - a));
                }
            }
        });
        Edge.test("DUEL: later than the BELL one never begins", () -> {
            int[] heights = {6, 4, 2, 0, 0, 0};
            for (int a = 0; a <= 5; a++) {
                Due.is("duel(0, 2, " + a + ", 0)", game().duel(0, 2, a, 0), heights[a]);
                Due.is("duel(2, 0, 0, " + a + ")", game().duel(2, 0, 0, a), -heights[a]);
            }
        });
        Edge.test("DUEL at the BELL", () -> {
            KiteVote x = Edge.on("fb1;as3;kw3h7;kp5w3h5");
            x.go(1);
            Due.is("duel(0, 1, 0, 5)", x.duel(0, 1, 0, 5), 2);
            Due.is("duel(1, 0, 0, 5)", x.duel(1, 0, 0, 5), -2);
        });
        Edge.test("DUEL: a CUT one has HEIGHT 0", () ->
            Due.is("duel(0, 1, 0, 0)", Edge.on("fb9;as3;kw3h5;kw3h5x9").duel(0, 1, 0, 0), -5));
        Edge.test("RESTS: one", () -> {
            Due.is("how many", game().rests(0, 1, NONE), 1);
            Due.is("the first", game().rests(0, 1, 0), 0);
            Due.is("the second", game().rests(0, 1, 1), NONE);
        });
        Edge.test("RESTS: what is alike is not more", () -> {
            KiteVote x = game();
            Due.is("how many", x.rests(0, 2, NONE), 6);
            Due.is("how many", x.rests(2, 0, NONE), 6);
            for (int i = 0; i < 6; i++) {
                Due.is("rests(0, 2, " + i + ")", x.rests(0, 2, i), i);
                Due.is("rests(2, 0, " + i + ")", x.rests(2, 0, i), 10 * i);
            }
        });
        Edge.test("RESTS: all 36, the i-th (rising)", () -> {
            KiteVote x = Edge.on("fb1;as3;kw3;kp5w3");
            Due.is("how many", x.rests(0, 1, NONE), 36);
            for (int i = 0; i < 36; i++) {
                Due.is("rests(0, 1, " + i + ")", x.rests(0, 1, i), 10 * (i / 6) + i % 6);
            }
            Due.is("rests(0, 1, 36)", x.rests(0, 1, 36), NONE);
        });
        Edge.test("RESTS: none", () -> {
            KiteVote x = matching();
            Due.is("duel(0, 1, 0, 0)", x.duel(0, 1, 0, 0), 6);
            Due.is("duel(0, 1, 0, 1)", x.duel(0, 1, 0, 1), -5);
            Due.is("duel(0, 1, 1, 0)", x.duel(0, 1, 1, 0), -6);
            Due.is("duel(0, 1, 1, 1)", x.duel(0, 1, 1, 1), 5);
            Due.is("how many", x.rests(0, 1, NONE), 0);
            Due.is("the first", x.rests(0, 1, 0), NONE);
        });
    }

    private static void clans() {
        Edge.test("CLAN: FEET at the BELL", () -> {
            KiteVote x = Edge.on("fb2;as4;kw3g1l9m1;kp5w4h3g1o2;kp9w4h9");
            Due.is("clan(1, NONE)", x.clan(1, NONE), 15);
            x.go(2);
            Due.is("clan(1, NONE) at it", x.clan(1, NONE), 15);
            Due.is("clan(1, 0) at it", x.clan(1, 0), 9);
        });
        Edge.test("CLAN: 0 and 4 are CLANS", () -> {
            KiteVote x = Edge.on("fb1;as3;kw3h5;kp5w3h4g4");
            Due.is("clan(0, NONE)", x.clan(0, NONE), 15);
            Due.is("clan(4, NONE)", x.clan(4, NONE), 12);
            Due.is("clan(4, 1)", x.clan(4, 1), 0);
        });
        Edge.test("CLAN: one without KITES has no FEET", () ->
            Due.is("clan(3, NONE)", Edge.on("kh5").clan(3, NONE), 0));
        Edge.test("CLAN: without one of its KITES (it does not fly)", () -> {
            KiteVote x = Edge.on("fb3;as3;kp0w3h5x9;kp1w3h6");
            Due.is("clan(0, NONE)", x.clan(0, NONE), 15);
            Due.is("clan(0, 0)", x.clan(0, 0), 18);
            Due.is("clan(0, 1)", x.clan(0, 1), 15);
            Edge.row(x, Edge.FLIES, 1, 1);
            Edge.row(x, Edge.HEIGHT, 5, 6);
        });
    }

    /** Of two lines that bear 1 alone, kite 1's is cut if both begin alike, else kite 0's. */
    private static KiteVote matching() {
        KiteVote x = Edge.on("fb1;kw1h5;kw2h5", "y:p=10?1;y:0", "y:w=1&!d=0?1;y:w=2&d=0?1;y:0");
        for (int i = 0; i < 3; i++) {
            x.splice(0, 1, 1);
            x.splice(1, 0, 1);
        }
        return x;
    }

    private static void spares() {
        Edge.test("SPARE: how much of its LINE is not PAID", () -> {
            KiteVote x = Edge.on("kl20h20;kl0g1;kl99g2;kh1g3");
            Due.is("spare(0) all PAID", x.spare(0), 0);
            Due.is("spare(1) no LINE", x.spare(1), 0);
            Due.is("spare(2)", x.spare(2), 99);
            Due.is("spare(3)", x.spare(3), 39);
        });
        Edge.test("SPARE: of all of a CLAN together", () ->
            Due.is("spare(4)", Edge.on("kl99g4;kl99g4;kl99g4;kl99g4;kl99g4;kl99g4;kl99g4;kl99h9g4").spare(4), 783));
        Edge.test("SPARE: of those that fly", () -> {
            Due.is("spare(0)", Edge.cutOne().spare(0), 35);
            Due.is("spare(0) of nobody", Edge.nobody().spare(0), 0);
            Due.is("spare(2) without KITES", Edge.on("k").spare(2), 0);
        });
        Edge.test("LONELY: nobody one PLACE apart", () -> {
            Due.is("alone", Edge.on("k").lonely(), 1);
            Due.is("one apart", Edge.on("kp4;kp5").lonely(), 0);
            Due.is("two apart", Edge.on("kp4;kp6").lonely(), 3);
            Due.is("a row of two and one", Edge.on("kp4;kp9;kp5").lonely(), 2);
        });
        Edge.test("LONELY: the first PLACE and the last are not one apart", () -> {
            Due.is("of 20", Edge.on("kp0;kp19").lonely(), 3);
            Due.is("of 3", Edge.on("fw3;kp0;kp2").lonely(), 3);
        });
        Edge.test("LONELY (bits): all eight", () ->
            Due.is("lonely()", Edge.on("kp0;kp2;kp4;kp6;kp8;kp10;kp12;kp14").lonely(), 255));
        Edge.test("LONELY: KITES that fly, nobody flying beside them", () -> {
            Due.is("beside a CUT one", Edge.cutOne().lonely(), 2);
            Due.is("of nobody", Edge.nobody().lonely(), 0);
        });
        Edge.test("HIGHEST (of several the lowest)", () -> {
            Due.is("all at 0", Edge.on("k;k").highest(), 0);
            Due.is("two at 7", Edge.on("kh5;kh7;kh7").highest(), 1);
            Due.is("the last", Edge.on("kh5;kh7;kh8").highest(), 2);
            Due.is("the first", Edge.on("kh9;kh7;kh8").highest(), 0);
        });
        Edge.test("HIGHEST: who flies", () -> Due.is("highest()", Edge.cutOne().highest(), 1));
    }

    private static void seen() {
        Edge.test("SEEN (8 at most)", () -> {
            KiteVote x = Edge.on("k;k");
            for (int i = 1; i <= 8; i++) {
                Due.is("see " + i, x.see(i % 2, 1, 0), i);
            }
            Edge.refused(x, "a ninth", () -> x.see(0, 1, 0), NONE);
        });
        Edge.test("SEEN: the eighth is so, too", () -> {
            KiteVote x = Edge.on("as5;kh20l40m1;kp5");
            for (int i = 1; i <= 7; i++) {
                x.see(1, 1, 0);
            }
            x.see(0, 1, 24);
            Due.is("weighs(0)", x.weighs(0), 1 << 1);
        });
        Edge.test("SEEN: behind j (1 .. 9) MINUTES", () -> {
            KiteVote x = Edge.on("as5;kw3l99h50m1");
            Due.is("see(0, 1, ..)", x.see(0, 1, 52), 1);
            Due.is("see(0, 9, ..)", x.see(0, 9, 68), 2);
            Due.is("weighs(0)", x.weighs(0), 8);
            Edge.refused(x, "see(0, 0, ..)", () -> x.see(0, 0, 50), NONE);
            Edge.refused(x, "see(0, 10, ..)", () -> x.see(0, 10, 70), NONE);
        });
        Edge.test("SEEN: HEIGHT 0, 99", () -> {
            KiteVote x = Edge.on("as9;kw3l99h99;kp5");
            Due.is("see 99", x.see(0, 1, 99), 1);
            Due.is("weighs(0)", x.weighs(0), 1022);
            Due.is("see 0", x.see(1, 1, 0), 2);
            Due.is("weighs(1)", x.weighs(1), 1022);
        });
        Edge.test("SEEN of a KITE that is CUT", () -> {
            KiteVote x = Edge.cutOne();
            Due.is("see(0, 1, 0)", x.see(0, 1, 0), 1);
            Due.is("count(11)", x.count(11), 1);
        });
        Edge.test("SEEN: from when it is asked", () -> {
            KiteVote x = Edge.on("fb5;as5;kw3l40h10m1");
            x.see(0, 2, 14);
            Due.is("weighs(0) now", x.weighs(0), 8);
            x.go(1);
            Due.is("weighs(0) a MINUTE later", x.weighs(0), 16);
        });
        Edge.test("WEIGHS: WEIGHTS (bits 1 .. 9): each of them", () -> {
            for (int w = 1; w <= 9; w++) {
                KiteVote x = Edge.on("as5;kl99h50m1");
                x.see(0, 1, 55 - w);
                Due.is("weighs(0) at " + (55 - w), x.weighs(0), 1 << w);
            }
            KiteVote x = Edge.on("as5;kl99h50m1");
            x.see(0, 1, 55);
            Due.is("weighs(0) of none so light", x.weighs(0), 0);
            x = Edge.on("as5;kl99h50m1");
            x.see(0, 1, 45);
            Due.is("weighs(0) of none so heavy", x.weighs(0), 0);
        });
        Edge.test("WEIGHS: nothing SEEN of it: all of them", () -> {
            KiteVote x = Edge.on("k;kp5");
            Due.is("weighs(0)", x.weighs(0), 1022);
            x.see(1, 9, 99);
            Due.is("weighs(0)", x.weighs(0), 1022);
            Due.is("weighs(1)", x.weighs(1), 0);
        });
        Edge.test("WEIGHS: what is SEEN of another one is not of it", () -> {
            KiteVote x = Edge.on("fb2;k;kp5");
            x.see(1, 9, 99);
            x.see(1, 1, 99);
            Due.is("weighs(0)", x.weighs(0), 1022);
            Due.is("weighs(1)", x.weighs(1), 0);
        });
        Edge.test("WEIGHS: by which all SEEN of it is so", () -> {
            KiteVote x = Edge.on("as5;kl40h3;kp5");
            x.see(0, 1, 0);
            Due.is("weighs(0) at 0", x.weighs(0), 1 << 8 | 1 << 9);
            x.see(0, 2, 0);
            Due.is("weighs(0) at 0, at 0", x.weighs(0), 1 << 8 | 1 << 9);
            x.see(0, 1, 1);
            Due.is("weighs(0) of two HEIGHTS at once", x.weighs(0), 0);
        });
        Edge.test("WEIGHS: its own WEIGHT, others as they are", () -> {
            KiteVote x = Edge.on("fb9;as5;kw5h5;kw5h5x9");
            x.see(0, 2, 0);
            Due.is("weighs(0) by being CUT", x.weighs(0), 1022);
            Edge.row(x, Edge.WEIGHT, 5, 5);
            Edge.row(x, Edge.FLIES, 1, 1);
        });
        Edge.test("WEIGHS: what is SEEN as late as the BELL", () -> {
            KiteVote x = Edge.on("fb4;as5;kw3l40h10m1");
            x.see(0, 4, 18);
            Due.is("weighs(0)", x.weighs(0), 8);
        });
        Edge.test("WEIGHS: what is SEEN later than the BELL cannot be", () -> {
            KiteVote x = Edge.on("fb4;as5;kw5l40h10");
            x.see(0, 5, 10);
            Due.is("weighs(0)", x.weighs(0), 0);
            x = Edge.on("fb4;as5;kw5l40h10");
            x.see(0, 4, 10);
            Due.is("weighs(0)", x.weighs(0), 1 << 1 | 1 << 2 | 1 << 3 | 1 << 4 | 1 << 5);
            x.go(1);
            Due.is("weighs(0) a MINUTE later", x.weighs(0), 0);
            x = Edge.on("fb1;as5;kw5l40h10");
            x.go(1);
            Due.is("weighs(0) at the BELL, nothing SEEN", x.weighs(0), 1022);
            x.see(0, 1, 10);
            Due.is("weighs(0) at the BELL", x.weighs(0), 0);
        });
    }

    private static void images() {
        Edge.test("An IMAGE keeps all of KITES", () -> {
            KiteVote x = Edge.on("fb9;as3;kw3h5m1o1;kw3h5x8;kp9l20h3g1;kp12g1");
            x.wax(1);
            x.go(1);
            x.image();
            String before = Edge.shows(x);
            x.go(3);
            Edge.row(x, Edge.FLIES, 0, 1, 1, 1);
            x.talk(0, 0);
            x.mode(1, 2);
            x.move(2, 1);
            x.splice(2, 3, 4);
            x.wax(2);
            x.back();
            for (int i = 0; i < 2; i++) {
                Due.is("count(12)", x.count(12), 0);
                String behind = Edge.shows(x);
                Due.is("all but the ACTS", behind.substring(behind.indexOf('|')).equals(before.substring(before.indexOf('|'))),
                    true);
                Due.is("wax(1)", x.wax(1), NONE);
                Due.is("wax(2)", x.wax(2), 1);
                x.back();
            }
        });
        Edge.test("An IMAGE keeps the MINUTE, the BOOK, the LAW", () -> {
            KiteVote x = Edge.on("fb2;as3;kw3h5o1");
            x.go(2);
            x.sit();
            x.go(1);
            Due.is("image()", x.image(), 1);
            x.talk(0, 0);
            x.go(1);
            x.sit();
            Due.is("count(9)", x.count(9), 0);
            Due.is("count(10)", x.count(10), 2);
            Due.is("back()", x.back(), 1);
            Due.is("count(7)", x.count(7), 1);
            Due.is("count(9)", x.count(9), 1);
            Due.is("count(10)", x.count(10), 1);
            Due.is("book(0)", x.book(0), 1);
            Due.is("book(1)", x.book(1), NONE);
        });
        Edge.test("An IMAGE keeps a full BOOK", () -> {
            KiteVote x = Edge.on("fb1;as3;kw3h5o1");
            for (int i = 0; i < 40; i++) {
                x.talk(0, i == 39 ? 2 : 1);
                x.go(1);
                x.sit();
            }
            x.image();
            x.undo();
            x.undo();
            x.undo();
            x.back();
            Due.is("count(10)", x.count(10), 40);
            Due.is("book(38)", x.book(38), 1);
            Due.is("book(39)", x.book(39), 2);
        });
        Edge.test("An IMAGE keeps the BOOK, though another one was written over it", () -> {
            KiteVote x = Edge.on("fb1;as3;kw3h5o1");
            x.go(1);
            x.sit();
            x.image();
            x.undo();
            x.talk(0, 0);
            x.sit();
            Due.is("book(0)", x.book(0), 0);
            x.back();
            Due.is("book(0)", x.book(0), 1);
        });
        Edge.test("An IMAGE keeps nothing else: GUST, SEEN, LAWS, which hold, the TAPE", () -> {
            KiteVote x = Edge.on("k;kp5");
            x.image();
            x.gust(7);
            x.see(0, 1, 1);
            Due.feed(x, "y:1");
            x.text(1);
            x.holds(0, 0);
            Due.feed(x, "abc");
            x.back();
            int[] counts = {2, 2, 0, 1, 3, 0, NONE, 0, 7, 0, 0, 1, 0};
            for (int i = 0; i < counts.length; i++) {
                Due.is("count(" + i + ")", x.count(i), counts[i]);
            }
        });
        Edge.test("BACK: no ACT can be UNDONE then", () -> {
            KiteVote x = Edge.on("k;kp5");
            x.talk(0, 1);
            x.image();
            x.talk(0, 2);
            Due.is("count(12)", x.count(12), 2);
            x.back();
            Due.is("count(12)", x.count(12), 0);
            Edge.refused(x, "undo()", x::undo, NONE);
            x.talk(1, 1);
            Due.is("undo() of one behind it", x.undo(), 0);
            Edge.row(x, Edge.OPINION, 1, 0);
        });
        Edge.test("an IMAGE is no end of ACTS", () -> {
            KiteVote x = Edge.on("k;kp5");
            x.talk(0, 1);
            x.image();
            Due.is("count(12)", x.count(12), 1);
            Due.is("undo()", x.undo(), 0);
            Due.is("back()", x.back(), 0);
            Edge.row(x, Edge.OPINION, 1, 0);
        });
        Edge.test("BACK: again and again", () -> {
            KiteVote x = Edge.on("fb9;k;kp5");
            x.go(2);
            x.image();
            for (int i = 1; i <= 3; i++) {
                x.go(i);
                x.talk(0, 1);
                Due.is("back()", x.back(), 2);
                Edge.row(x, Edge.OPINION, 0, 0);
            }
        });
    }
}
