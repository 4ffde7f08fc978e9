/** Promises 25 to 41: what is ahead, who decides, games of two, what a kite weighs. */
public final class AheadTests {
    private static final int NONE = KiteVote.NONE;
    private static final int HIDDEN = KiteVote.HIDDEN;

    private AheadTests() {
    }

    public static void main(String[] args) {
        ahead();
        bell();
        cut();
        calm();
        timing();
        stand();
        cross();
        prey();
        power();
        talked();
        content();
        ringer();
        duel();
        rests();
        clan();
        see();
        weighs();
        nothingChanges();
        Due.close();
    }

    /** Kite 0 is cut in the second minute, kite 1 flies; the bell is at 9. */
    private static KiteVote cutOne() {
        KiteVote x = Due.on("fb9;as3;kw3h5x0;kw3h5x9");
        x.go(2);
        Due.is("one flies", x.count(1), 1);
        return x;
    }

    private static void ahead() {
        Due.part("25");
        KiteVote x = Due.on("fb5r4;as5;kw3l10m1;kp5w3h9m2;kp6w3h6");
        int[] heights = {0, 2, 4, 6, 8, 10};
        int[] paid = {0, 4, 8, 10, 10, 10};
        for (int n = 0; n <= 5; n++) {
            Due.is("ahead(0, " + n + ", 0)", x.ahead(0, n, 0), heights[n]);
            Due.is("ahead(0, " + n + ", 1)", x.ahead(0, n, 1), paid[n]);
        }
        int[] worn = {0, 1, 2, 2, 2, 2};
        for (int n = 0; n <= 5; n++) {
            Due.is("ahead(2, " + n + ", 2)", x.ahead(2, n, 2), worn[n]);
            Due.is("ahead(2, " + n + ", 3)", x.ahead(2, n, 3), 1);
        }
        int[][] refused = {{0, -1, 0}, {0, 6, 0}, {3, 1, 0}, {-1, 1, 0}, {0, 1, 4}, {0, 1, -1}};
        for (int[] r : refused) {
            Due.is("ahead(" + r[0] + ", " + r[1] + ", " + r[2] + ")", x.ahead(r[0], r[1], r[2]), NONE);
        }
        x.go(3);
        Due.is("ahead(0, 2, 0)", x.ahead(0, 2, 0), 10);
        Due.is("ahead(0, 3, 0)", x.ahead(0, 3, 0), NONE);
        x = cutOne();
        Due.is("height of a cut one", x.ahead(0, 1, 0), 0);
        Due.is("worn of a cut one", x.ahead(0, 1, 2), 18);
        Due.is("a cut one flies", x.ahead(0, 1, 3), 0);
        Due.is("ahead without a field", new KiteVote().ahead(0, 0, 0), NONE);
    }

    private static void bell() {
        Due.part("26");
        KiteVote x = Due.on("fb3m50;as4;kw3h0l9m1o1;kp4w4h2");
        Due.is("bell(0)", x.bell(0), 1);
        Due.is("bell(1)", x.bell(1), 6);
        Due.is("bell(2)", x.bell(2), 9);
        Due.is("bell(3)", x.bell(3), NONE);
        Due.is("bell(-1)", x.bell(-1), NONE);
        Due.is("bell without a field", new KiteVote().bell(0), NONE);
        Due.is("result()", x.result(), 0);
        x.mode(0, 0);
        Due.is("bell(0)", x.bell(0), 0);
        x.talk(1, 2);
        Due.is("bell(0) of a calm", x.bell(0), 2);
        x.go(3);
        Due.is("bell(0) at the bell", x.bell(0), 2);
        Due.is("bell(1) at the bell", x.bell(1), 0);
    }

    private static void cut() {
        Due.part("27");
        KiteVote x = Due.on("fb10;as3;kp9w3h5x9;kp3w3h5;kp4w3h5");
        Due.is("cut(0)", x.cut(0), 1);
        Due.is("cut(1)", x.cut(1), 10);
        Due.is("cut(2)", x.cut(2), NONE);
        Due.is("cut(-1)", x.cut(-1), NONE);
        x.wax(1);
        Due.is("cut(0)", x.cut(0), 2);
        Due.is("cut(1)", x.cut(1), 5);
        x.go(3);
        Due.is("cut(1) as the minute is", x.cut(1), 5);
        x.go(2);
        Due.is("one that is cut is cut no more", x.cut(0), NONE);
        Due.is("none before the bell", Due.on("fb9;as3;kw3h5;kw3h5").cut(0), NONE);
        Due.is("none before the bell", Due.on("fb9;as3;kw3h5;kw3h5").cut(1), NONE);
        Due.is("cut without a field", new KiteVote().cut(0), NONE);
    }

    private static void calm() {
        Due.part("28");
        Due.is("calm()", Due.on("fb9r4;as3;kw3l10h10m2;kp5h0").calm(), 3);
        Due.is("calm() at the bell", Due.on("fb3r4;as3;kw3l10h10m2;kp5h0").calm(), 3);
        Due.is("calm() behind the bell", Due.on("fb2r4;as3;kw3l10h10m2;kp5h0").calm(), NONE);
        Due.is("calm() now", Due.on("as9;km1;k").calm(), 0);
        Due.is("calm() without a field", new KiteVote().calm(), NONE);
        KiteVote x = Due.on("fb9;as3;kw3h5;kw3h5");
        Due.is("calm() of none", x.calm(), NONE);
        Due.rule(x, 1, "y:5");
        Due.is("calm() where nobody flies", x.calm(), 2);
        x.go(9);
        Due.is("calm() where nobody flies now", x.calm(), 0);
        x = Due.on("fb1;as3;kw3h5");
        x.go(1);
        Due.is("calm() at the bell", x.calm(), NONE);
    }

    private static void timing() {
        Due.part("29");
        KiteVote x = Due.on("fb3r5;as5;kw3;kp5w5");
        Due.is("timing(0, 0)", x.timing(0, 0), 0);
        Due.is("timing(0, 1)", x.timing(0, 1), 6);
        Due.is("timing(1, 0)", x.timing(1, 0), 0);
        Due.is("timing(1, 1)", x.timing(1, 1), 0);
        // it holds till then, whatever its mode is: the wind falls from 6 on and would press it down
        x = Due.on("fb6r9;as9;an3s1;kw3h3l20m2");
        Due.is("timing(0, 0)", x.timing(0, 0), 0);
        Due.is("timing(0, 1)", x.timing(0, 1), 14);
        // from height 5 on there is no wind: the latest start but one is best
        x = Due.on("fb4r9;as7;af5s1;kw3l90");
        Due.is("timing(0, 0)", x.timing(0, 0), 2);
        Due.is("timing(0, 1)", x.timing(0, 1), 8);
        x.go(4);
        Due.is("timing(0, 0) at the bell", x.timing(0, 0), 0);
        Due.is("timing(0, 1) at the bell", x.timing(0, 1), 0);
        Due.is("timing(0, 2)", x.timing(0, 2), NONE);
        Due.is("timing(0, -1)", x.timing(0, -1), NONE);
        Due.is("timing(1, 0)", x.timing(1, 0), NONE);
        Due.is("timing(-1, 0)", x.timing(-1, 0), NONE);
        Due.is("timing of a cut one", cutOne().timing(0, 0), NONE);
        // beside a sharp line it is best never to rise: as many minutes as are left
        x = Due.on("fb2r9;as5;kw3h0;kw5h2x9");
        Due.is("timing(0, 1) that is cut else", x.timing(0, 1), 2);
        Due.is("timing(0, 0) that is cut else", x.timing(0, 0), 1);
    }

    private static void stand() {
        Due.part("30");
        // anywhere but beside kite 1 (places 1 and 3) kite 0 is not cut
        KiteVote x = Due.on("fw6b4;as5;kp3w4h3l9m1;kp2w5h4x9;kp5w5");
        Due.is("stand(0, 0)", x.stand(0, 0), 0);
        Due.is("stand(0, 1)", x.stand(0, 1), 7);
        Due.is("stand(1, 0)", x.stand(1, 0), 0);
        Due.is("stand(1, 1)", x.stand(1, 1), 4);
        Due.is("stand(2, 0) at its own or lower", x.stand(2, 0), 0);
        x = Due.on("fw4b4;as5;kp3w4h3l9m1;kp2w5h4x9;kp0w5");
        Due.is("stand(0, 0) with places 1 and 3 left", x.stand(0, 0), 1);
        Due.is("stand(0, 1) where it is cut", x.stand(0, 1), 0);
        Due.is("stand(0, 2)", x.stand(0, 2), NONE);
        Due.is("stand(0, -1)", x.stand(0, -1), NONE);
        Due.is("stand(3, 0)", x.stand(3, 0), NONE);
        Due.is("stand of a cut one", cutOne().stand(0, 0), NONE);
        Due.is("stand where a cut one was", cutOne().stand(1, 0), 0);
        x = Due.on("fw1b2;as3;kw3h7");
        Due.is("stand(0, 0) in its own", x.stand(0, 0), 0);
        Due.is("stand(0, 1) in its own", x.stand(0, 1), 7);
    }

    private static void cross() {
        Due.part("31");
        KiteVote x = Due.on("fb3;as3;kp0w3h5x9;kp5w3h5;kp6w3h0;kp9w3h5x9;kp19w3h30");
        Due.is("cross(0, 1)", x.cross(0, 1), 2);
        Due.is("cross(1, 0)", x.cross(1, 0), 1);
        Due.is("cross(0, 3) both waxed", x.cross(0, 3), 0);
        Due.is("cross(0, 4) too far above", x.cross(0, 4), 0);
        Due.is("cross(0, 2) on the ground", x.cross(0, 2), 0);
        Due.is("cross(0, 0)", x.cross(0, 0), NONE);
        Due.is("cross(0, 5)", x.cross(0, 5), NONE);
        Due.is("cross(-1, 0)", x.cross(-1, 0), NONE);
        x.move(0, 1);
        Due.is("it is not moved", x.kite(0, 0), 1);
        Due.is("cross of a cut one", cutOne().cross(0, 1), NONE);
        Due.is("cross with a cut one", cutOne().cross(1, 0), NONE);
        // the lowest free place is beside another one, who is cut with it
        x = Due.on("fb10;as3;kp0w3h5;kp5w3h5;kp7w3h5");
        Due.is("cross(0, 1) both", x.cross(0, 1), 3);
        // held on both sides
        x = Due.on("fb3;as3;kp0w3h5;kp1w3h5;kp2w3h5;kp5w3h5");
        Due.is("cross(3, 1) without a free place", x.cross(3, 1), NONE);
        Due.is("cross(0, 1) where it is", x.cross(0, 1), 0);
        Due.is("cross(2, 1) where it is", x.cross(2, 1), 0);
        Due.is("cross(3, 0) at the edge", x.cross(3, 0), NONE);
        Due.is("cross(3, 2) right of it", x.cross(3, 2), 0);
        // where it is, though a lower place is free: there kite 2 would be worn, too
        x = Due.on("fb2;as3;kp6w3h5x9;kp5w3h5;kp3w3h5");
        Due.is("cross(0, 1) where it is", x.cross(0, 1), 2);
        x = Due.on("fw2b3;as3;kp0w3h5x9;kp1w3h5");
        Due.is("cross(0, 1) in a narrow field", x.cross(0, 1), 2);
        // the place left of it is taken first: there kite 2, waxed, cuts the one
        x = Due.on("fb2;as3;kp0w3h5x5;kp9w3h5;kp7w3h5x8;kp18w3");
        Due.is("cross(0, 1) at the lower place", x.cross(0, 1), 2);
        x = Due.on("fb3;as3;kp0w3h5x5;kp9w3h5;kp7w3h5x8;kp18w3");
        Due.is("cross(0, 1) at the lower place, later", x.cross(0, 1), 3);
    }

    private static void prey() {
        Due.part("32");
        KiteVote x = Due.on("fb3;as3;kp0w3h5x9;kp5w3h5;kp12w3h0;kp9w3h5x9;kp16w3h6x2");
        Due.is("prey(0)", x.prey(0), 2 | 16);
        Due.is("prey(1)", x.prey(1), 0);
        Due.is("prey(4)", x.prey(4), 0);
        Due.is("prey(5)", x.prey(5), NONE);
        Due.is("prey(-1)", x.prey(-1), NONE);
        Due.is("prey of a cut one", cutOne().prey(0), NONE);
        Due.is("prey where none is left", cutOne().prey(1), 0);
        x = Due.on("fb10;as3;kp0w3h5;kp5w3h5");
        Due.is("cross(0, 1)", x.cross(0, 1), 3);
        Due.is("prey that cuts it, too", x.prey(0), 0);
        x = Due.on("fb10;as3;kp0w3h5;kp5w3h5x1");
        Due.is("prey(1)", x.prey(1), 1);
    }

    private static void power() {
        Due.part("33");
        KiteVote x = Due.on("fm50;kh5;kh5;kh5o2");
        Due.is("power(0)", x.power(0), 2);
        Due.is("power(2)", x.power(2), 2);
        x = Due.on("fm0;kh5;kh5;kh5");
        Due.is("power(0) with MAJORITY 0", x.power(0), 1);
        x = Due.on("fm99;kh5;kh5;kh5");
        Due.is("power(1) with MAJORITY 99", x.power(1), 1);
        x = Due.on("fm50;kh30;kh5;kh5;k");
        int[] powers = {8, 0, 0, 0};
        for (int i = 0; i < 4; i++) {
            Due.is("power(" + i + ")", x.power(i), powers[i]);
        }
        Due.is("power where all is low", Due.on("k;k").power(0), 0);
        Due.is("power(4)", x.power(4), NONE);
        Due.is("power(-1)", x.power(-1), NONE);
        Due.is("power of a cut one", cutOne().power(0), NONE);
        Due.is("power beside a cut one", cutOne().power(1), 1);
        x = Due.on("fm49;kh5;kh5");
        Due.is("power(0) at half", x.power(0), 1);
        x = Due.on("fm50;kh1;kh1;kh1;kh1;kh1;kh1;kh1;kh1");
        Due.is("power(0) of eight", x.power(0), 35);
    }

    private static void talked() {
        Due.part("34");
        Due.is("talked()", Due.on("fb1;as3;kw3h5;kw3h6;kw3h4o1").talked(), 1);
        Due.is("talked() by two", Due.on("fb1m99;as3;kw3h5;kw3h6;kw3h4o1").talked(), 3);
        Due.is("talked() by none", Due.on("fb1;as3;kw3h5o1;kw3h4").talked(), 0);
        Due.is("talked() by nobody", Due.on("fb1;kh0;ko1").talked(), NONE);
        Due.is("talked() without a field", new KiteVote().talked(), NONE);
        Due.is("talked() of one who abstains", Due.on("fb1;as3;kw3h9;kp5w3h1o1;kp9w3h20o2").talked(), 1);
        Due.is("talked() of one who abstains", Due.on("fb1m60;as3;kw3h9;kp5w3h6;kp9w3h30o2").talked(), 4);
        Due.is("talked() of the higher one", Due.on("fb1;as3;kw3h5;kp5w3h6;kp9w3h20").talked(), 4);
        Due.is("talked() of two", Due.on("fb1;as3;kw3h5;kp5w3h6;kp9w3h4;kp12w3h7").talked(), 1 | 8);
        // kite 0 is highest now, but cut before the bell
        Due.is("talked() of one who flies then", Due.on("fb9;as3;kw3h9;kw3h3x9;kp5w3h2").talked(), 2);
        KiteVote x = cutOne();
        Due.is("talked() of one who flies", x.talked(), 2);
    }

    private static void content() {
        Due.part("35");
        KiteVote x = Due.on("fb5;as3;kw3h5o1;kp3w3h4;kp7w3h9o2;kp9w3h0o1");
        Due.is("content(1)", x.content(1), 2);
        Due.is("content(60)", x.content(60), 2);
        Due.is("content(0)", x.content(0), NONE);
        Due.is("content(61)", x.content(61), NONE);
        Due.is("content without a field", new KiteVote().content(1), NONE);
        x.talk(0, 2);
        Due.is("content of a result of nay", x.content(5), 1);
        x.talk(1, 2);
        Due.is("content of a calm", x.content(5), 0);
        // from minute 0, though it is later now; the nays rise by 2 a minute
        x = Due.on("fb2;as3;an1s5;kw3h5o1;kp5w3h4l9");
        Due.is("content(1)", x.content(1), 1);
        x.go(2);
        Due.is("content(1) by heights now", x.content(1), 1);
        Due.is("bell(0)", x.bell(0), 1);
        // the wind falls from minute 5 on: a minute from 0 on is not a minute from 7 on
        x = Due.on("fb9;as3;an5s0;kw3h8o1;kp5w3h7");
        x.go(7);
        Due.is("content(1) from minute 0", x.content(1), 1);
        Due.is("content(6) from minute 0", x.content(6), 0);
        Due.is("content(1) by the first minute", Due.on("as3;an1s0;kw3h3o1;kp5w3h2").content(1), 1);
        // who flies now counts, though it is cut by then
        x = Due.on("fb9;as3;kw3h5o1;kw3h5o1x9;kp5w3h1");
        Due.is("content(2) with a cut one", x.content(2), 2);
        Due.is("content beside a cut one", cutOne().content(3), 1);
    }

    private static void ringer() {
        Due.part("36");
        KiteVote x = Due.on("fb1;as3;kw3h5o1;kp5w1m1;kp9w1m1");
        Due.is("content(1)", x.content(1), 1);
        Due.is("content(2)", x.content(2), 2);
        Due.is("ringer(0)", x.ringer(0), 2);
        Due.is("ringer(1)", x.ringer(1), 2);
        Due.is("ringer(2)", x.ringer(2), NONE);
        Due.is("ringer(-1)", x.ringer(-1), NONE);
        Due.is("ringer without a field", new KiteVote().ringer(0), NONE);
        x = Due.on("k;ko1");
        Due.is("ringer(0) of a calm", x.ringer(0), 1);
        Due.is("ringer(1) of a calm", x.ringer(1), 0);
        // at 60 alone: the wind of minute 59 is the first
        x = Due.on("fb1;an59s9;kw3m1");
        Due.is("ringer(0) at the last", x.ringer(0), 60);
        x.go(1);
        Due.is("ringer(0) at the last", x.ringer(0), 60);
        Due.is("ringer(1) at the last", x.ringer(1), 1);
    }

    private static void duel() {
        Due.part("37");
        KiteVote x = Due.on("fb3r5;as5;kw3;kp5w3m2;kp9");
        int[] heights = {6, 4, 2, 0, 0, 0};
        for (int a = 0; a < 6; a++) {
            for (int b = 0; b < 6; b++) {
                Due.is("duel(0, 1, " + a + ", " + b + ")", x.duel(0, 1, a, b), heights[a] - heights[b]);
            }
        }
        int[][] refused = {{0, 0, 0, 0}, {0, 3, 0, 0}, {-1, 0, 0, 0}, {0, 1, 6, 0}, {0, 1, 0, 6}, {0, 1, -1, 0},
            {0, 1, 0, -1}};
        for (int[] r : refused) {
            Due.is("duel refused", x.duel(r[0], r[1], r[2], r[3]), HIDDEN);
        }
        Due.is("duel with a cut one", cutOne().duel(1, 0, 0, 0), HIDDEN);
        Due.is("duel of a cut one", cutOne().duel(0, 1, 0, 0), HIDDEN);
        x.go(3);
        Due.is("duel at the bell", x.duel(0, 1, 0, 5), 0);
    }

    private static void rests() {
        Due.part("38");
        KiteVote x = Due.on("fb3r5;as5;kw3;kp5w3m2;kp9w9");
        Due.is("rests(0, 1, NONE)", x.rests(0, 1, NONE), 1);
        Due.is("rests(0, 1, 0)", x.rests(0, 1, 0), 0);
        Due.is("rests(0, 1, 1)", x.rests(0, 1, 1), NONE);
        Due.is("rests(0, 1, -2)", x.rests(0, 1, -2), NONE);
        // kite 2 never rises: all of its starts are alike
        Due.is("rests(0, 2, NONE)", x.rests(0, 2, NONE), 6);
        for (int i = 0; i < 6; i++) {
            Due.is("rests(0, 2, " + i + ")", x.rests(0, 2, i), i);
            Due.is("rests(2, 0, " + i + ")", x.rests(2, 0, i), 10 * i);
        }
        Due.is("rests(0, 0, NONE)", x.rests(0, 0, NONE), NONE);
        Due.is("rests(0, 3, NONE)", x.rests(0, 3, NONE), NONE);
        Due.is("rests(-1, 0, NONE)", x.rests(-1, 0, NONE), NONE);
        Due.is("rests with a cut one", cutOne().rests(1, 0, NONE), NONE);
        x.go(3);
        Due.is("rests at the bell", x.rests(0, 1, NONE), 36);
        Due.is("rests at the bell, 7", x.rests(0, 1, 7), 11);
        Due.is("rests at the bell, 35", x.rests(0, 1, 35), 55);
        Due.is("rests at the bell, 36", x.rests(0, 1, 36), NONE);
    }

    private static void clan() {
        Due.part("39");
        KiteVote x = Due.on("fb3;as3;kp0w3h5x9g1o2;kp1w3h5;kp4w3h4g1;kp5w3h0");
        Due.is("clan(1, NONE)", x.clan(1, NONE), 27);
        Due.is("clan(1, 0)", x.clan(1, 0), 12);
        Due.is("clan(1, 2)", x.clan(1, 2), 15);
        Due.is("clan(1, 1) of another", x.clan(1, 1), NONE);
        Due.is("clan(0, NONE) with a cut one", x.clan(0, NONE), 0);
        Due.is("clan(0, 1)", x.clan(0, 1), 0);
        Due.is("clan(3, NONE) of nobody", x.clan(3, NONE), 0);
        Due.is("clan(5, NONE)", x.clan(5, NONE), NONE);
        Due.is("clan(-1, NONE)", x.clan(-1, NONE), NONE);
        Due.is("clan(1, 4)", x.clan(1, 4), NONE);
        Due.is("clan(1, -2)", x.clan(1, -2), NONE);
        Due.is("clan without a field", new KiteVote().clan(0, NONE), NONE);
        Due.is("clan without a cut one", cutOne().clan(0, 0), NONE);
        // without the waxed one the other one of its clan is not cut
        x = Due.on("fb3;as3;kp0w3h5x9;kp1w3h6");
        Due.is("clan(0, NONE)", x.clan(0, NONE), 15);
        Due.is("clan(0, 0)", x.clan(0, 0), 18);
        Due.is("clan(0, 1)", x.clan(0, 1), 15);
    }

    private static void see() {
        Due.part("40");
        Due.is("see without a field", new KiteVote().see(0, 1, 0), NONE);
        KiteVote x = Due.on("k;k");
        int[][] refused = {{2, 1, 0}, {-1, 1, 0}, {0, 0, 0}, {0, 10, 0}, {0, 1, -1}, {0, 1, 100}};
        for (int[] r : refused) {
            Due.is("see(" + r[0] + ", " + r[1] + ", " + r[2] + ")", x.see(r[0], r[1], r[2]), NONE);
        }
        for (int i = 1; i <= 8; i++) {
            Due.is("see " + i, x.see(i % 2, 1 + i % 9, 99), i);
        }
        Due.is("see a ninth", x.see(0, 1, 0), NONE);
        Due.is("count(11)", x.count(11), 8);
        Due.is("see a cut one", cutOne().see(0, 1, 0), 1);
    }

    private static void weighs() {
        Due.part("41");
        KiteVote x = Due.on("fb9;as5;kl50h20m1;kp5");
        Due.is("weighs(0) of nothing seen", x.weighs(0), 1022);
        x.see(1, 9, 99);
        Due.is("weighs(0) of nothing seen of it", x.weighs(0), 1022);
        Due.is("weighs(1) by what can't be", x.weighs(1), 0);
        x.see(0, 1, 22);
        Due.is("weighs(0)", x.weighs(0), 8);
        x.see(0, 3, 26);
        Due.is("weighs(0)", x.weighs(0), 8);
        x.see(0, 3, 25);
        Due.is("weighs(0) by two heights at once", x.weighs(0), 0);
        Due.is("weighs(2)", x.weighs(2), NONE);
        Due.is("weighs(-1)", x.weighs(-1), NONE);
        Due.is("weighs of a cut one", cutOne().weighs(0), NONE);
        // on the ground all that are no lighter than the wind look alike
        x = Due.on("fb9;as5;kw1m1");
        x.see(0, 1, 0);
        Due.is("weighs(0) on the ground", x.weighs(0), 1 << 5 | 1 << 6 | 1 << 7 | 1 << 8 | 1 << 9);
        // from when it is asked: a minute later the same is said of a minute later
        x = Due.on("fb3;as5;kw3l40h10m1");
        x.see(0, 2, 14);
        Due.is("weighs(0) now", x.weighs(0), 8);
        x.go(1);
        Due.is("weighs(0) a minute later", x.weighs(0), 1 << 4);
        x.go(1);
        Due.is("weighs(0) behind the bell", x.weighs(0), 0);
        x = Due.on("fb1;as5;kw3");
        x.go(1);
        Due.is("weighs(0) at the bell", x.weighs(0), 1022);
        // one that is cut has no height
        x = Due.on("fb9;as5;kw5h5;kw5h5x9");
        x.see(0, 2, 0);
        Due.is("weighs(0) by being cut", x.weighs(0), 1022);
    }

    private static void nothingChanges() {
        Due.part("25 to 41 change nothing");
        KiteVote x = Due.on("fb12r3;as5;af9n3s2;kw3h5x2o1;kw3h6m1x1;kp4w2h3m1o2;kp5w4h9m2");
        x.go(2);
        x.see(0, 1, 5);
        long before = print(x);
        for (int k = -1; k < 5; k++) {
            for (int j = -1; j < 5; j++) {
                x.ahead(k, j, j);
                x.bell(j);
                x.cut(j);
                x.calm();
                x.timing(k, j);
                x.stand(k, j);
                x.cross(k, j);
                x.prey(k);
                x.power(k);
                x.talked();
                x.content(j);
                x.ringer(j);
                x.duel(k, j, 1, 2);
                x.rests(k, j, NONE);
                x.clan(j, k);
                x.weighs(k);
            }
        }
        Due.is("all that shows", print(x), before);
    }

    private static long print(KiteVote x) {
        long sum = 0;
        for (int what = 0; what < 13; what++) {
            sum = sum * 31 + x.count(what);
        }
        for (int kite = 0; kite < x.count(0); kite++) {
            for (int what = 0; what < 12; what++) {
                sum = sum * 31 + x.kite(kite, what);
            }
        }
        return sum;
    }
}
