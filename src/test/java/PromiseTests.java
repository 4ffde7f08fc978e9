import java.util.NoSuchElementException;

/** Promises 1 to 24 and 42 to 47: what is told, what is so now, what is done by hand. */
public final class PromiseTests {
    private static final int NONE = KiteVote.NONE;
    private static final int HIDDEN = KiteVote.HIDDEN;
    private static final int PLACE = 0;
    private static final int WEIGHT = 1;
    private static final int LINE = 2;
    private static final int PAID = 3;
    private static final int HEIGHT = 4;
    private static final int OPINION = 5;
    private static final int WAX = 6;
    private static final int CLAN = 7;
    private static final int MODE = 8;
    private static final int WORN = 9;
    private static final int KNOTS = 10;
    private static final int FLIES = 11;

    private PromiseTests() {
    }

    public static void main(String[] args) {
        newObject();
        feed();
        end();
        faultOfFields();
        faultOfLaws();
        textOfFields();
        textOfLaws();
        kite();
        law();
        holds();
        wind();
        lift();
        wear();
        feetAndResult();
        mode();
        wax();
        move();
        splice();
        talk();
        go();
        cuts();
        worthOfLaws();
        gust();
        gusts();
        sitAndBook();
        undo();
        spareLonelyHighest();
        imageAndBack();
        count();
        Due.close();
    }

    private static void newObject() {
        Due.part("1");
        KiteVote x = new KiteVote();
        int[] counts = {0, 0, 0, 0, 0, NONE, NONE, 0, 0, 0, 0, 0, 0, HIDDEN};
        for (int i = 0; i < counts.length; i++) {
            Due.is("count(" + i + ")", x.count(i), counts[i]);
        }
        Due.is("law(0)", x.law(0), NONE);
        Due.is("highest()", x.highest(), NONE);
        Due.is("image()", x.image(), NONE);
        Due.is("NONE", KiteVote.NONE, -1);
        Due.is("HIDDEN", KiteVote.HIDDEN, -1000000);
    }

    private static void feed() {
        Due.part("2");
        KiteVote x = new KiteVote();
        Due.is("feed of nothing", x.feed(0, 0, 0, 0, 0), 0);
        Due.is("feed of ff in four places", x.feed(0xff000000, 0x00ff0000, 0x0000ff00, 0x000000ff, 0), 4);
        Due.is("feed of -1", x.feed(-1, 0, 0, 0, -1), 12);
        x = new KiteVote();
        // k;kh with blanks of 0 between: the highest byte comes first
        Due.is("feed k;kh", x.feed('k' << 24, ';' << 16, 'k', 'h' << 24 | '9', 0), 5);
        Due.is("text(0)", x.text(0), 2);
        Due.is("kite(1, 4)", x.kite(1, HEIGHT), 9);
        for (int i = 1; i <= 12; i++) {
            Due.is("feed " + i, x.feed(0x20202020, 0x20202020, 0x20202020, 0x20202020, 0x20202020), 20 * i);
        }
        Due.is("feed of one more", x.feed(0, 0, 0, 0, 1), NONE);
        Due.is("count(4)", x.count(4), 240);
        Due.is("feed of none more", x.feed(0, 0, 0, 0, 0), 240);
        Due.is("end(239)", x.end(239), true);
        Due.is("feed of two more", x.feed(1, 0, 0, 0, 1), NONE);
        Due.is("count(4)", x.count(4), 239);
        Due.is("feed of the last", x.feed(0, 0, 0, 0, 1), 240);
        for (int i = 0; i < 5; i++) {
            int[] w = new int[5];
            w[i] = 1;
            Due.is("feed of word " + i, x.feed(w[0], w[1], w[2], w[3], w[4]), NONE);
        }
        x.end(238);
        Due.is("feed of three more", x.feed(0x010101, 0, 0, 0, 0), NONE);
        Due.is("feed of two more", x.feed(0, 0, 0x010001, 0, 0), 240);
    }

    private static void end() {
        Due.part("3");
        KiteVote x = new KiteVote();
        Due.is("end(0)", x.end(0), true);
        Due.is("end(1)", x.end(1), false);
        Due.is("end(-1)", x.end(-1), false);
        Due.feed(x, "k;k;x");
        Due.is("end(6)", x.end(6), false);
        Due.is("end(5)", x.end(5), true);
        Due.is("fault(0)", x.fault(0), 4);
        Due.is("end(3)", x.end(3), true);
        Due.is("count(4)", x.count(4), 3);
        Due.is("end(5)", x.end(5), false);
        Due.is("text(0)", x.text(0), 2);
    }

    private static void field(String text, int fault) {
        Due.is("fault(0) of '" + text + "'", Due.fault(0, text), fault);
    }

    private static void faultOfFields() {
        Due.part("4");
        field("", 0);
        field("   ", 3);
        field("k", NONE);
        field("K", 0);
        field("f", 1);
        field("f ", 2);
        field("k;", 2);
        field(";k", 0);
        field("k;;k", 2);
        field("k;f;a", NONE);
        field("fw", 2);
        field("fw;", 2);
        field("fw1 0;k", 4);
        field("fw 1;k", NONE);
        field("fw00;k", 3);
        field("fw01;k", NONE);
        field("fw211;k", 4);
        field("fw000;k", 4);
        field("fw001;k", 4);
        field("fw20w20;k", 4);
        field("fp1;k", 1);
        field("fb60m0r9w20;k", NONE);
        field("fb61", 3);
        field("fb00", 3);
        field("fm99;k", NONE);
        field("fm0;k", NONE);
        field("fr00;k", 3);
        field("fr09;k", NONE);
        field("k;f;f", 4);
        field("kp19", NONE);
        field("kp20", 3);
        field("kw9", NONE);
        field("kw09", NONE);
        field("kw1p3w1", 5);
        field("ks1", 1);
        field("kh99l99", NONE);
        field("kl98h99", 7);
        field("kl0", NONE);
        field("kl0;fw9;a", NONE);
        field("kh41;k;k", 8);
        field("kh41;kx", 7);
        field("ko2x9g4m2", NONE);
        field("ko3", 2);
        field("kg5", 2);
        field("km3", 2);
        field("k-", 1);
        field("k1", 1);
        field("kp-1", 2);
        field("kp19;fw19", 9);
        field("fw19;kp19", 9);
        field("kp1;k", 5);
        field("kp1;k;k", 7);
        field("kp1;kp0;k", NONE);
        field("k;k;k;k;k;k;k;k", NONE);
        field("k;k;k;k;k;k;k;k;k", 16);
        field("fw7;k;k;k;k;k;k;k;k", 19);
        field("a;a;a;a;a;a;k", NONE);
        field("a;a;a;a;a;a;a;k", 12);
        field("an60f99s9;k", NONE);
        field("an61;k", 3);
        field("af100;k", 4);
        field("as10;k", 3);
        field("a", 1);
        field("a;f", 3);
        field("k\u00e9", 1);
        field(" k ; k ", NONE);
        field("kx", 2);
        field("k;af", 4);
        field("k;fb", 4);
        field("kpw1", 2);
        field("fw-1;k", 2);
        bounds("fw", "k", 1, 20);
        bounds("fb", "k", 1, 60);
        bounds("fm", "k", 0, 99);
        bounds("fr", "k", 1, 9);
        bounds("kp", "a", 0, 19);
        bounds("kw", "a", 1, 9);
        bounds("kl", "a", 0, 99);
        bounds("kl99h", "a", 0, 99);
        bounds("ko", "a", 0, 2);
        bounds("kx", "a", 0, 9);
        bounds("kg", "a", 0, 4);
        bounds("km", "a", 0, 2);
        bounds("af", "k", 0, 99);
        bounds("an", "k", 0, 60);
        bounds("as", "k", 0, 9);
        KiteVote x = new KiteVote();
        Due.feed(x, "fw9;k;a");
        Due.is("fault(0)", x.fault(0), NONE);
        Due.is("fault(0) again", x.fault(0), NONE);
        Due.is("fault(1) of it", x.fault(1), 0);
        Due.is("fault(0) again", x.fault(0), NONE);
        Due.is("text(0)", x.text(0), 1);
        Due.is("fault(2)", new KiteVote().fault(2), -2);
        Due.is("fault(-1)", new KiteVote().fault(-1), -2);
    }

    /** Every number of one and of two digits, and some of three. */
    private static void bounds(String start, String rest, int least, int most) {
        for (int v = 0; v <= 109; v++) {
            String text = start + v;
            int fault = v < least || v > most ? text.length() - 1 : NONE;
            field(text + ";" + rest, fault);
            if (v < 10) {
                field(start + "0" + v + ";" + rest, fault == NONE ? NONE : fault + 1);
            }
        }
    }

    private static void rule(String text, int fault) {
        Due.is("fault(1) of '" + text + "'", Due.fault(1, text), fault);
    }

    private static void faultOfLaws() {
        Due.part("4");
        rule("", 0);
        rule("y", 1);
        rule("y:", 2);
        rule("y:;", 2);
        rule("y:s", NONE);
        rule(" y : s ; y : 1 2", 15);
        rule("y:s;", 4);
        rule("y:s;x", 4);
        rule("x:s", 0);
        rule("y;s", 1);
        rule("y:9999", NONE);
        rule("y:0000", NONE);
        rule("y:00000", 6);
        rule("y:12345", 6);
        rule("y:12 34", 5);
        rule("y:s+", 4);
        rule("y:s++w", 4);
        rule("y:-1", 2);
        rule("y:sw", 3);
        rule("y:s*w/h+p-a+b*d/t", NONE);
        rule("y:y", 2);
        rule("y:s?1", 3);
        rule("y:s=1", 5);
        rule("y:s=1?", 6);
        rule("y:s=1?2", NONE);
        rule("y:s=1=2?2", 5);
        rule("y:s=1&h?2", 7);
        rule("y:s=1&h<2|p>3?2", NONE);
        rule("y:s=1;y:2", 5);
        rule("y:s=1?2?3", 7);
        rule("y:s==1?2", 4);
        rule("y:(s=1)?2", NONE);
        rule("y:(s)?2", 4);
        rule("y:(s=1)", 7);
        rule("y:(s=1)+1", 7);
        rule("y:(s=1?2", 6);
        rule("y:[s=1]?2", 4);
        rule("y:[s]=1?2", NONE);
        rule("y:s=(1)?2", 4);
        rule("y:s+(1)", 4);
        rule("y:!s?1", 4);
        rule("y:!s=1?1", NONE);
        rule("y:!s=1&!(h=1)?1", NONE);
        rule("y:s=!1?1", 4);
        rule("y:s=1?!h=1", 6);
        rule("y:s=1?(h)", 6);
        rule("y:)", 2);
        rule("y:[s", 4);
        rule("y:[s)", 4);
        rule("y:[s]]", 5);
        rule("y:[[[[[[s]]]]]]", NONE);
        rule("y:[[[[[[[s]]]]]]]", 8);
        rule("y:!!!!!!s=1?1", NONE);
        rule("y:!!!!!!!s=1?1", 8);
        rule("y:((((((s=1))))))?1", NONE);
        rule("y:(((((((s=1)))))))?1", 8);
        rule("y:!(!([[s]]=1))?1", NONE);
        rule("y:!(!([[[s]]]=1))?1", 8);
        rule("y:!!!!!!s=1&!!!!!!h=1?[[[[[[1]]]]]]", NONE);
        rule("y:!!!(((s=1)))&[[[[[[1]]]]]]<1?1", NONE);
        rule("y:!(!(!(s=1&![h]=1)))?1", 12);
        rule("y:!(!(s=1&![h]=1))?1", NONE);
        rule("y:s\u00e9", 3);
        rule("y:s=1|?2", 6);
        rule("y:s=1&?2", 6);
        rule("y:s=1||h=1?2", 6);
        rule("y:s=?1", 4);
        rule("y:?1", 2);
        rule("y:!?1", 3);
        rule("y:(s=1|)?2", 7);
        rule("y:()?2", 3);
        rule("y:[]", 3);
        rule("y:s*", 4);
        rule("y:s*;y:1", 4);
        rule("y:s+;y:1", 4);
        rule("y:[;y:1", 3);
        rule("y:s=1?;y:2", 6);
        rule("y:s=1|h?2", 7);
        rule("y:s=1|(h=2?2", 10);
        rule("y:s=1??2", 6);
        rule("k", 0);
    }

    private static void textOfFields() {
        Due.part("5");
        KiteVote x = new KiteVote();
        Due.feed(x, "k;k;");
        Due.is("text(0) of a fault", x.text(0), NONE);
        Due.is("count(4)", x.count(4), 4);
        Due.is("text(2)", x.text(2), NONE);
        Due.is("text(-1)", x.text(-1), NONE);
        Due.feed(x, "k");
        Due.is("text(2) of a field", x.text(2), NONE);
        Due.is("text(0)", x.text(0), 3);
        Due.is("count(4)", x.count(4), 0);
        Due.is("text(0) of nothing", x.text(0), NONE);
        Due.is("count(0)", x.count(0), 3);
        x = Due.on("fb1;as9;kw1h5o1;k;k");
        Due.rule(x, 0, "y:3");
        Due.rule(x, 1, "y:4");
        x.gust(7);
        x.wax(0);
        x.go(1);
        x.sit();
        x.see(0, 1, 1);
        x.image();
        x.go(1);
        Due.feed(x, "k;as2");
        Due.is("text(0) of another", x.text(0), 1);
        int[] counts = {1, 1, 1, 2, 0, 0, 1, 0, 7, 0, 0, 0, 0, HIDDEN};
        for (int i = 0; i < counts.length; i++) {
            Due.is("count(" + i + ") in another", x.count(i), counts[i]);
        }
        Due.is("back()", x.back(), NONE);
        Due.is("undo()", x.undo(), NONE);
        Due.is("wax(0)", x.wax(0), 1);
        Due.is("law(1)", x.law(1), 20);
        Due.is("wind(0, 0)", x.wind(0, 0), 2);
        Due.is("kite(0, 1)", x.kite(0, WEIGHT), 3);
    }

    private static void textOfLaws() {
        Due.part("5");
        KiteVote x = new KiteVote();
        for (int i = 0; i < 6; i++) {
            Due.feed(x, "y:" + i);
            Due.is("text(1) " + i, x.text(1), i);
            Due.is("count(3)", x.count(3), i + 1);
        }
        Due.feed(x, "y:6");
        Due.is("fault(1)", x.fault(1), NONE);
        Due.is("text(1) of a seventh", x.text(1), NONE);
        Due.is("count(4)", x.count(4), 3);
        Due.is("count(3)", x.count(3), 6);
        x.end(0);
        Due.feed(x, "k");
        x.text(0);
        for (int i = 0; i < 6; i++) {
            x.holds(0, i);
            Due.is("lift(0) by law " + i, x.lift(0), i);
        }
        x = new KiteVote();
        Due.feed(x, "y:1?");
        Due.is("text(1) of a fault", x.text(1), NONE);
        Due.is("count(4)", x.count(4), 4);
    }

    private static boolean isRefused(KiteVote x, int kite, int what) {
        try {
            x.kite(kite, what);
            return false;
        } catch (NoSuchElementException e) {
            return true;
        }
    }

    private static void kite() {
        Due.part("6");
        Due.is("kite(0, 0) without a field", isRefused(new KiteVote(), 0, 0), true);
        KiteVote x = Due.on("k;kp7w8l50h33o2x6g4m2");
        int[] first = {0, 3, 40, 0, 0, 0, 0, 0, 0, 0, 0, 1};
        int[] second = {7, 8, 50, 33, 33, 2, 6, 4, 2, 0, 0, 1};
        for (int i = 0; i < 12; i++) {
            Due.is("kite(0, " + i + ")", x.kite(0, i), first[i]);
            Due.is("kite(1, " + i + ")", x.kite(1, i), second[i]);
        }
        Due.is("kite(2, 0)", isRefused(x, 2, 0), true);
        Due.is("kite(-1, 0)", isRefused(x, -1, 0), true);
        Due.is("kite(0, 12)", isRefused(x, 0, 12), true);
        Due.is("kite(0, -1)", isRefused(x, 0, -1), true);
        Due.is("kite(far)", isRefused(x, Integer.MAX_VALUE, Integer.MIN_VALUE), true);
    }

    private static void law() {
        Due.part("7");
        KiteVote x = Due.on("k");
        int[] plain = {20, 20, 50, 5};
        KiteVote y = Due.on("fr9w7m0b60;k");
        int[] told = {7, 60, 0, 9};
        for (int i = 0; i < 4; i++) {
            Due.is("law(" + i + ")", x.law(i), plain[i]);
            Due.is("law(" + i + ") as told", y.law(i), told[i]);
            Due.is("law(" + i + ") of a plain one", Due.on("f;k").law(i), plain[i]);
            Due.is("law(" + i + ") without a field", new KiteVote().law(i), NONE);
        }
        Due.is("law(4)", x.law(4), NONE);
        Due.is("law(-1)", x.law(-1), NONE);
    }

    private static void holds() {
        Due.part("8");
        KiteVote x = new KiteVote();
        Due.is("holds(0, 0)", x.holds(0, 0), false);
        Due.is("holds(0, NONE)", x.holds(0, NONE), true);
        Due.rule(x, 0, "y:1");
        Due.rule(x, 1, "y:2");
        Due.is("count(5)", x.count(5), 0);
        Due.is("count(6)", x.count(6), 1);
        Due.is("holds(0, 2)", x.holds(0, 2), false);
        Due.is("holds(0, -2)", x.holds(0, -2), false);
        Due.is("holds(2, 0)", x.holds(2, 0), false);
        Due.is("holds(-1, 0)", x.holds(-1, 0), false);
        Due.is("count(5)", x.count(5), 0);
        Due.is("holds(0, 0) as it is", x.holds(0, 0), true);
        Due.is("holds(1, NONE)", x.holds(1, NONE), true);
        Due.is("count(6)", x.count(6), NONE);
    }

    private static void wind() {
        Due.part("9");
        KiteVote x = Due.on("k;as3;af10s7;af5n3s1");
        int[][] rows = {{0, 0, 3}, {9, 0, 3}, {10, 0, 7}, {10, 2, 7}, {10, 3, 1}, {5, 3, 1}, {4, 3, 3}, {99, 60, 1},
            {-1, 0, NONE}, {100, 0, NONE}, {0, -1, NONE}, {0, 61, NONE}};
        for (int[] r : rows) {
            Due.is("wind(" + r[0] + ", " + r[1] + ")", x.wind(r[0], r[1]), r[2]);
        }
        Due.is("wind without air", Due.on("k").wind(0, 0), 0);
        Due.is("wind of plain air", Due.on("k;a").wind(0, 0), 4);
        Due.is("wind from a minute on", Due.on("k;an2").wind(99, 1), 0);
        Due.is("wind without a field", new KiteVote().wind(0, 0), NONE);
    }

    private static void lift() {
        Due.part("10");
        KiteVote x = Due.on("fb9;as6;kw2l30h5m1;kp9w9");
        Due.is("lift(0)", x.lift(0), 4);
        Due.is("lift(1)", x.lift(1), -3);
        Due.is("lift(2)", x.lift(2), HIDDEN);
        Due.is("lift(-1)", x.lift(-1), HIDDEN);
        String[] laws = {"s", "w", "h", "p", "t", "a", "b", "d"};
        int[] now = {6, 2, 5, 5, 0, 0, 0, 0};
        int[] next = {6, 2, 9, 9, 1, 0, 0, 0};
        for (int i = 0; i < laws.length; i++) {
            x = Due.on("fb9;as6;kw2l30h5m1;kp1w9x3h1");
            x.go(0);
            Due.rule(x, 0, "y:" + laws[i]);
            Due.is("lift(0) by " + laws[i], x.lift(0), now[i]);
            x.holds(0, NONE);
            x.go(1);
            x.holds(0, 0);
            Due.is("lift(0) by " + laws[i] + " a minute later", x.lift(0), next[i]);
        }
        x = Due.on("k");
        Due.rule(x, 0, "y:10");
        Due.is("lift held above", x.lift(0), 9);
        Due.rule(x, 0, "y:0-10");
        Due.is("lift held below", x.lift(0), -9);
        Due.is("lift of a cut one", cutOne().lift(0), HIDDEN);
        // the letters of one law do not stay for the other one
        for (String letter : new String[] {"a", "b", "d"}) {
            x = Due.on("kh9x3;kx2");
            Due.rule(x, 0, "y:" + letter);
            Due.rule(x, 1, "y:9");
            x.wear(0, 1);
            Due.is("lift by " + letter + " behind a wear", x.lift(0), 0);
        }
        x = Due.on("as5;kh9;k");
        Due.rule(x, 0, "y:s");
        Due.rule(x, 1, "y:s");
        Due.is("lift by s", x.lift(0), 5);
        Due.is("wear by s behind a lift", x.wear(0, 1), 0);
    }

    /** Kite 0 is cut in the second minute, kite 1 flies. */
    private static KiteVote cutOne() {
        KiteVote x = Due.on("fb9;as3;kw3h5x0;kw3h5x9");
        x.go(2);
        Due.is("kite 0 flies", x.kite(0, FLIES), 0);
        Due.is("kite 1 flies", x.kite(1, FLIES), 1);
        return x;
    }

    private static void wear() {
        Due.part("11");
        String[] laws = {"a", "b", "d", "0-d", "h", "p", "w", "s", "t", "9999"};
        int[] one = {3, 1, 3, 0, 9, 9, 4, 0, 0, 9};
        int[] other = {1, 3, 0, 3, 6, 6, 1, 0, 0, 9};
        for (int i = 0; i < laws.length; i++) {
            KiteVote x = Due.on("as5;kw4h9x3;kw1h6x1");
            Due.rule(x, 1, "y:" + laws[i]);
            Due.is("wear(0, 1) by " + laws[i], x.wear(0, 1), one[i]);
            Due.is("wear(1, 0) by " + laws[i], x.wear(1, 0), other[i]);
        }
        KiteVote x = Due.on("kw4h9x3;kw1h6x1;kp9h18;kh0");
        Due.is("wear(0, 1)", x.wear(0, 1), 0);
        Due.is("wear(1, 0)", x.wear(1, 0), 3);
        Due.is("wear(2, 0) at 9 more", x.wear(2, 0), 4);
        Due.is("wear(0, 2) at 9 less", x.wear(0, 2), 0);
        Due.is("wear(3, 0) at 9 less", x.wear(3, 0), 4);
        Due.is("wear(2, 1) at 12 more", x.wear(2, 1), 0);
        Due.is("wear(1, 2) at 12 less", x.wear(1, 2), 0);
        Due.is("wear at 10", Due.on("kh10;k").wear(0, 1), 0);
        Due.is("wear at -10", Due.on("kh10;k").wear(1, 0), 0);
        Due.is("wear held at 9", Due.on("k;kx9").wear(0, 1), 9);
        Due.is("wear(0, 0)", x.wear(0, 0), NONE);
        Due.is("wear(0, 4)", x.wear(0, 4), NONE);
        Due.is("wear(-1, 0)", x.wear(-1, 0), NONE);
        Due.is("wear of a cut one", cutOne().wear(0, 1), NONE);
        Due.is("wear by a cut one", cutOne().wear(1, 0), NONE);
    }

    private static void feetAndResult() {
        Due.part("12, 13");
        KiteVote x = Due.on("fm40;kh4o1;kh6;kh9o2;kh2o1");
        Due.is("feet(0)", x.feet(0), 18);
        Due.is("feet(1)", x.feet(1), 18);
        Due.is("feet(2)", x.feet(2), 27);
        Due.is("feet(3)", x.feet(3), NONE);
        Due.is("feet(-1)", x.feet(-1), NONE);
        Due.is("feet without a field", new KiteVote().feet(0), NONE);
        Due.is("result()", x.result(), 1);
        Due.is("result at half", Due.on("fm50;kh4o1;kh4").result(), 0);
        Due.is("result above half", Due.on("fm49;kh4o1;kh4").result(), 1);
        Due.is("result of nobody up", Due.on("k;ko1;kh9o2").result(), 2);
        Due.is("result of MAJORITY 0", Due.on("fm0;kh1;ko1").result(), 0);
        Due.is("result of MAJORITY 99", Due.on("fm99;kh30o1").result(), 1);
        Due.is("result without a field", new KiteVote().result(), NONE);
        Due.is("feet of a cut one", cutOne().feet(0), 15);
    }

    private static void mode() {
        Due.part("14");
        KiteVote x = Due.on("km1;k");
        Due.is("mode(0, 1)", x.mode(0, 1), false);
        Due.is("mode(0, 2)", x.mode(0, 2), true);
        Due.is("kite(0, 8)", x.kite(0, MODE), 2);
        Due.is("mode(0, 0)", x.mode(0, 0), true);
        Due.is("mode(0, 3)", x.mode(0, 3), false);
        Due.is("mode(0, -1)", x.mode(0, -1), false);
        Due.is("mode(2, 1)", x.mode(2, 1), false);
        Due.is("mode(-1, 1)", x.mode(-1, 1), false);
        Due.is("count(12)", x.count(12), 2);
        Due.is("mode of a cut one", cutOne().mode(0, 1), false);
    }

    private static void wax() {
        Due.part("15");
        KiteVote x = Due.on("fb1;kx8;k");
        Due.is("wax(0)", x.wax(0), 9);
        Due.is("wax(0) again", x.wax(0), NONE);
        Due.is("wax(1)", x.wax(1), 1);
        Due.is("wax(2)", x.wax(2), NONE);
        Due.is("wax(-1)", x.wax(-1), NONE);
        x.go(1);
        Due.is("wax(1) at the bell", x.wax(1), NONE);
        x.sit();
        Due.is("wax(0) of 9", x.wax(0), NONE);
        Due.is("wax(1) in the next sitting", x.wax(1), 2);
        Due.is("kite(1, 6)", x.kite(1, WAX), 2);
        x = Due.on("fb1;k;k;k;k;k;k;k;k");
        for (int sitting = 1; sitting <= 3; sitting++) {
            for (int i = 0; i < 8; i++) {
                Due.is("wax(" + i + ")", x.wax(i), sitting);
                Due.is("wax(" + i + ") again", x.wax(i), NONE);
            }
            x.go(1);
            x.sit();
        }
        Due.is("wax of a cut one", cutOne().wax(0), NONE);
    }

    private static void move() {
        Due.part("16");
        KiteVote x = Due.on("fw4;k;kp2;kp3");
        Due.is("move(0, -1)", x.move(0, -1), NONE);
        Due.is("move(0, 1)", x.move(0, 1), 1);
        Due.is("move(0, 1) to a held one", x.move(0, 1), NONE);
        Due.is("move(2, 1)", x.move(2, 1), NONE);
        Due.is("move(0, 0)", x.move(0, 0), NONE);
        Due.is("move(0, 2)", x.move(0, 2), NONE);
        Due.is("move(3, 1)", x.move(3, 1), NONE);
        Due.is("move(-1, 1)", x.move(-1, 1), NONE);
        Due.is("move(0, -1)", x.move(0, -1), 0);
        Due.is("kite(0, 0)", x.kite(0, PLACE), 0);
        Due.is("move(3, 1)", x.move(3, 1), NONE);
        Due.is("move(0, least)", x.move(0, Integer.MIN_VALUE), NONE);
        Due.is("move of a cut one", cutOne().move(0, -1), NONE);
        x = cutOne();
        x.move(1, 1);
        Due.is("move of a cut one", x.move(0, 1), NONE);
        Due.is("move where a cut one was", cutOne().move(1, -1), 0);
    }

    private static void splice() {
        Due.part("17");
        KiteVote x = Due.on("kl20h5g2;kl95g2;kg1;kl0g2");
        Due.is("splice(0, 1, 5)", x.splice(0, 1, 5), NONE);
        Due.is("splice(0, 1, 4)", x.splice(0, 1, 4), 99);
        Due.is("splice(0, 3, 12)", x.splice(0, 3, 12), NONE);
        Due.is("splice(0, 3, 0)", x.splice(0, 3, 0), NONE);
        Due.is("splice(0, 3, -1)", x.splice(0, 3, -1), NONE);
        Due.is("splice(0, 3, least)", x.splice(0, 3, Integer.MIN_VALUE), NONE);
        Due.is("splice(0, 3, 11)", x.splice(0, 3, 11), 11);
        Due.is("splice(0, 3, 1)", x.splice(0, 3, 1), NONE);
        Due.is("splice(1, 0, 1)", x.splice(1, 0, 1), 6);
        Due.is("splice(1, 1, 1)", x.splice(1, 1, 1), NONE);
        Due.is("splice(1, 2, 1)", x.splice(1, 2, 1), NONE);
        Due.is("splice(1, 4, 1)", x.splice(1, 4, 1), NONE);
        Due.is("splice(-1, 1, 1)", x.splice(-1, 1, 1), NONE);
        int[] lines = {6, 98, 40, 11};
        int[] knots = {1, 1, 0, 1};
        for (int i = 0; i < 4; i++) {
            Due.is("kite(" + i + ", 2)", x.kite(i, LINE), lines[i]);
            Due.is("kite(" + i + ", 10)", x.kite(i, KNOTS), knots[i]);
        }
        Due.is("kite(0, 3)", x.kite(0, PAID), 5);
        Due.is("kite(1, 7)", x.kite(1, CLAN), 2);
        Due.is("splice of a cut one", cutOne().splice(0, 1, 1), NONE);
        Due.is("splice to a cut one", cutOne().splice(1, 0, 1), NONE);
    }

    private static void talk() {
        Due.part("18");
        KiteVote x = Due.on("kh2;k");
        Due.is("talk(0, 0)", x.talk(0, 0), false);
        Due.is("talk(0, 2)", x.talk(0, 2), true);
        Due.is("feet(2)", x.feet(2), 6);
        Due.is("talk(0, 3)", x.talk(0, 3), false);
        Due.is("talk(0, -1)", x.talk(0, -1), false);
        Due.is("talk(2, 1)", x.talk(2, 1), false);
        Due.is("talk(0, 1)", x.talk(0, 1), true);
        Due.is("kite(0, 5)", x.kite(0, OPINION), 1);
        Due.is("talk to a cut one", cutOne().talk(0, 1), false);
    }

    private static void go() {
        Due.part("19");
        Due.is("go(1) without a field", new KiteVote().go(1), NONE);
        KiteVote x = Due.on("fb5r4;as5;kw3l10m1");
        Due.is("go(0)", x.go(0), NONE);
        Due.is("go(-1)", x.go(-1), NONE);
        Due.is("go(6)", x.go(6), NONE);
        int[] paid = {4, 8, 10, 10, 10};
        int[] heights = {2, 4, 6, 8, 10};
        for (int i = 0; i < 5; i++) {
            Due.is("go(1)", x.go(1), i + 1);
            Due.is("kite(0, 3)", x.kite(0, PAID), paid[i]);
            Due.is("kite(0, 4)", x.kite(0, HEIGHT), heights[i]);
        }
        Due.is("go(1) at the bell", x.go(1), NONE);
        x = Due.on("fb5r4;as3;kw3l10h10m2");
        int[] hauled = {6, 2, 0, 0, 0};
        for (int i = 0; i < 5; i++) {
            x.go(1);
            Due.is("kite(0, 3) hauled", x.kite(0, PAID), hauled[i]);
            Due.is("kite(0, 4) hauled", x.kite(0, HEIGHT), hauled[i]);
        }
        // what is paid in a minute counts in it, and so do s and h as they were behind (1)
        x = Due.on("fb5r9;as1;af9s9;kw2l99h8m1");
        x.go(1);
        Due.is("height by the low wind", x.kite(0, HEIGHT), 7);
        x = Due.on("fb5r7;kl20h3m1");
        Due.rule(x, 0, "y:p-h");
        x.go(1);
        Due.is("height by what is paid then", x.kite(0, HEIGHT), 10);
        x.go(1);
        Due.is("height by what is paid then", x.kite(0, HEIGHT), 17);
        Due.is("t is the minute before it passes", minuteLaw(), 3);
    }

    private static int minuteLaw() {
        KiteVote x = Due.on("fb5;kh0m1");
        Due.rule(x, 0, "y:t");
        x.go(3);
        return x.kite(0, HEIGHT);
    }

    private static void cuts() {
        Due.part("19");
        KiteVote x = Due.on("fb20;as3;kw3h5;kw3h5;kp3w3h5;kp4w3h0");
        x.go(9);
        Due.is("worn of 0", x.kite(0, WORN), 9);
        Due.is("worn of 1", x.kite(1, WORN), 9);
        Due.is("worn of 2 beside one on the ground", x.kite(2, WORN), 0);
        Due.is("worn of 3 on the ground", x.kite(3, WORN), 0);
        Due.is("flying", x.count(1), 4);
        x.go(1);
        Due.is("both cut at once", x.count(1), 2);
        int[] cut = {0, 3, 40, 0, 0, 0, 0, 0, 0, 10, 0, 0};
        for (int i = 0; i < 12; i++) {
            Due.is("kite(0, " + i + ")", x.kite(0, i), cut[i]);
        }
        x = Due.on("fb20;as3;kw3h5;kw3h5");
        x.splice(1, 0, 1);
        x.go(6);
        Due.is("a knot bears 6", x.kite(0, FLIES), 1);
        x.go(1);
        Due.is("a knot is cut at 7", x.kite(0, FLIES), 0);
        Due.is("the other one flies", x.kite(1, FLIES), 1);
        x.go(8);
        Due.is("alone nothing wears", x.kite(1, WORN), 7);
        x = Due.on("fb20;as3;kw3h5;kw3h5");
        for (int i = 0; i < 4; i++) {
            x.splice(1, 0, 1);
        }
        Due.is("four knots", x.kite(0, KNOTS), 4);
        Due.is("first cut by four knots", x.cut(1), 1);
        x = Due.on("fb20;as3;kw3h5;kw3h5");
        x.go(5);
        x.move(1, 1);
        x.splice(1, 0, 1);
        x.splice(1, 0, 1);
        Due.is("still flies by hand", x.kite(0, FLIES), 1);
        x.go(1);
        Due.is("cut with nobody near", x.kite(0, FLIES), 0);
        // d as it was behind (2): 5 and 15 become 6 and 14 before they wear
        x = Due.on("fb5;as4;af10s2;kw3h5;kw3h15");
        x.go(1);
        Due.is("worn within 10", x.kite(0, WORN), 1);
        // the third of a row is worn by two
        x = Due.on("fb5;as3;kw3h5;kw3h5x0;kw3h5x2");
        x.go(1);
        Due.is("worn by two", x.kite(1, WORN), 4);
        Due.is("worn by the middle", x.kite(2, WORN), 0);
        x = Due.on("fb9;as3;kw3h5;kw3h5");
        Due.rule(x, 1, "y:t");
        x.go(3);
        Due.is("worn by t", x.kite(0, WORN), 3);
    }

    private static int worth(String law) {
        KiteVote x = Due.on("fb9;as6;kw2l30h5m1");
        Due.rule(x, 0, law);
        return x.lift(0);
    }

    private static void worthOfLaws() {
        Due.part("10 (WORTH)");
        Object[][] rows = {{"y:1+2*3", 7}, {"y:[1+2]*3", 9}, {"y:9-3-2", 4}, {"y:9/2", 4}, {"y:[0-9]/2", -4},
            {"y:7/[0-2]", -3}, {"y:7/0", 0}, {"y:8/2/2", 2}, {"y:8/2*3-4", 8}, {"y:7-7/0", 7},
            {"y:9999*9999/1000/1000", 1}, {"y:[9999*9999-9999]/9900-95", 5}, {"y:[0-9999*9999]/1000/1000", -1},
            {"y:[0-9999*9999-9999*9999]/9999/99", -1}, {"y:9999*9999*9999*9999/9999/100", 1},
            {"y:[9999*9999+9999*9999]/1000/1000", 1}, {"y:9999*9999/[0-9999]/[0-50]", 2},
            {"y:9999*9999-9999*100-95", 5}, {"y:[0-9999*9999]+9999*100+95", -5}, {"y:s+9999*9999-9999*100-95", 5},
            {"y:0-9999*100-9999*100+9999*100+95", -5}, {"y:w=2?4", 4}, {"y:w=3?4", 0}, {"y:w=3?4;y:5", 5}, {"y:w<3?4;y:5", 4}, {"y:w<2?4;y:5", 5},
            {"y:w>1?4;y:5", 4}, {"y:w>2?4;y:5", 5}, {"y:1;y:2", 1}, {"y:w=3?1;y:w=4?2;y:w=2?3;y:4", 3},
            {"y:!w=2?1;y:2", 2}, {"y:!!w=2?1;y:2", 1}, {"y:w=2|h=1&h=2?1;y:2", 1}, {"y:(w=2|h=1)&h=2?1;y:2", 2},
            {"y:!w=1&h=5?1;y:2", 1}, {"y:!(w=2&h=5)?1;y:2", 2}, {"y:!w=2|h=5?1;y:2", 1}, {"y:w=2&h=5?1;y:2", 1},
            {"y:w=2&h=4?1;y:2", 2}, {"y:w=1|h=4?1;y:2", 2}, {"y:w+3=h?1;y:2", 1}, {"y:[w+3]*2>h+4?1;y:2", 1},
            {" y : w = 2 ? 0003 ; y : 5 ", 3}};
        for (Object[] r : rows) {
            Due.is("lift by " + r[0], worth((String) r[0]), (Integer) r[1]);
        }
    }

    private static void gust() {
        Due.part("20");
        KiteVote x = new KiteVote();
        Due.is("gust(0)", x.gust(0), false);
        Due.is("gust(99)", x.gust(99), true);
        Due.is("gust(99) again", x.gust(99), false);
        Due.is("gust(100)", x.gust(100), false);
        Due.is("gust(-1)", x.gust(-1), false);
        Due.is("count(8)", x.count(8), 99);
        Due.is("gust(0)", x.gust(0), true);
    }

    private static long seed;

    private static int draw(int k) {
        seed = seed * 6364136223846793005L + 1442695040888963407L;
        return (int) ((seed >>> 33) % k);
    }

    private static void gusts() {
        Due.part("21");
        Due.is("gusts without a field", new KiteVote().gusts(1, 1), NONE);
        KiteVote x = Due.on("fb60r9;as5;kw3l60h20m1;kp9w5l40h9;kp5w5l40h0");
        Due.is("gusts(0)", x.gusts(0, 1), NONE);
        Due.is("gusts(61)", x.gusts(61, 1), NONE);
        x.gust(60);
        long[] seeds = {1L, -5L, Long.MAX_VALUE, 0L, 123456789012345L};
        for (long s : seeds) {
            x = Due.on("fb60r9;as5;kw3l60h20m1;kp9w5l40h9;kp5w5l40h0");
            x.gust(60);
            Due.is("gusts(12)", x.gusts(12, s), 12);
            seed = s;
            int[] lift = {2, 0, 0};
            int[] paid = {20, 9, 0};
            int[] height = {20, 9, 0};
            int[] worn = {0, 0, 0};
            int[] alive = {1, 1, 1};
            for (int minute = 0; minute < 12; minute++) {
                paid[0] = Math.min(60, paid[0] + 9);
                for (int i = 0; i < 3; i++) {
                    height[i] = Math.min(paid[i], height[i] + lift[i]) * alive[i];
                }
                for (int i = 0; i < 3; i++) {
                    if (alive[i] == 0 || draw(100) >= 60) {
                        continue;
                    }
                    int way = draw(3);
                    if (way == 0) {
                        height[i] = Math.max(0, height[i] - 5);
                    } else if (way == 1) {
                        height[i] = Math.min(paid[i], height[i] + 5);
                    } else {
                        worn[i]++;
                    }
                }
                for (int i = 0; i < 3; i++) {
                    if (worn[i] >= 10) {
                        alive[i] = 0;
                        height[i] = 0;
                    }
                }
            }
            for (int i = 0; i < 3; i++) {
                Due.is("height of " + i, x.kite(i, HEIGHT), height[i]);
                Due.is("worn of " + i, x.kite(i, WORN), worn[i]);
                Due.is("flies of " + i, x.kite(i, FLIES), alive[i]);
            }
            Due.is("count(12)", x.count(12), 12);
        }
        x = Due.on("fb60;as5;kw3l60h20m1");
        KiteVote y = Due.on("fb60;as5;kw3l60h20m1");
        x.gusts(9, 7);
        y.go(9);
        Due.is("GUST 0 is a plain minute", x.kite(0, HEIGHT), y.kite(0, HEIGHT));
    }

    private static void sitAndBook() {
        Due.part("22, 23");
        Due.is("sit without a field", new KiteVote().sit(), NONE);
        Due.is("book without a field", new KiteVote().book(0), NONE);
        KiteVote x = Due.on("fb1;as3;kw3h5o1");
        Due.is("sit before the bell", x.sit(), NONE);
        x.go(1);
        Due.is("sit carried", x.sit(), 1);
        Due.is("count(7)", x.count(7), 0);
        Due.is("count(9)", x.count(9), 1);
        x.talk(0, 2);
        x.go(1);
        Due.is("sit of a calm", x.sit(), 2);
        Due.is("count(9) stays", x.count(9), 1);
        x.talk(0, 0);
        x.go(1);
        Due.is("sit not carried", x.sit(), 0);
        Due.is("count(9)", x.count(9), 0);
        int[] book = {1, 2, 0, NONE};
        for (int i = 0; i < 4; i++) {
            Due.is("book(" + i + ")", x.book(i), book[i]);
        }
        Due.is("book(-1)", x.book(-1), NONE);
        for (int i = 3; i < 40; i++) {
            x.go(1);
            Due.is("sit " + i, x.sit(), 0);
        }
        x.go(1);
        Due.is("sit with a full book", x.sit(), NONE);
        Due.is("count(10)", x.count(10), 40);
        Due.is("count(7)", x.count(7), 1);
        Due.is("book(39)", x.book(39), 0);
        Due.is("book(40)", x.book(40), NONE);
        Due.is("what is worn stays", wornAfterSitting(), 2);
    }

    private static int wornAfterSitting() {
        KiteVote x = Due.on("fb2;as3;kw3h5o1;kw3h5");
        x.go(2);
        x.sit();
        return x.kite(0, WORN);
    }

    private static void undo() {
        Due.part("24");
        Due.is("undo without a field", new KiteVote().undo(), NONE);
        KiteVote x = Due.on("fb60;as5;kw3l60h2m1;kp3l20");
        Due.is("undo()", x.undo(), NONE);
        x.go(45);
        Due.is("count(12)", x.count(12), 40);
        for (int i = 39; i >= 0; i--) {
            Due.is("undo()", x.undo(), i);
            Due.is("count(7)", x.count(7), 5 + i);
            Due.is("kite(0, 4)", x.kite(0, HEIGHT), Math.min(60, 2 + 2 * (5 + i)));
        }
        Due.is("undo()", x.undo(), NONE);
        Due.is("count(7)", x.count(7), 5);
        x = Due.on("fb1;as3;kw3h5o1;kp3w3h5");
        x.mode(0, 1);
        x.wax(0);
        x.move(0, 1);
        x.splice(0, 1, 3);
        x.talk(1, 2);
        x.go(1);
        x.sit();
        Due.is("count(12)", x.count(12), 7);
        Due.is("undo of sit", x.undo(), 6);
        Due.is("count(7)", x.count(7), 1);
        Due.is("count(9)", x.count(9), 0);
        Due.is("count(10)", x.count(10), 0);
        Due.is("wax(0)", x.wax(0), NONE);
        Due.is("undo of go", x.undo(), 5);
        Due.is("count(7)", x.count(7), 0);
        Due.is("undo of talk", x.undo(), 4);
        Due.is("kite(1, 5)", x.kite(1, OPINION), 0);
        Due.is("undo of splice", x.undo(), 3);
        Due.is("kite(0, 2)", x.kite(0, LINE), 40);
        Due.is("kite(1, 2)", x.kite(1, LINE), 40);
        Due.is("kite(1, 10)", x.kite(1, KNOTS), 0);
        Due.is("undo of move", x.undo(), 2);
        Due.is("kite(0, 0)", x.kite(0, PLACE), 0);
        Due.is("undo of wax", x.undo(), 1);
        Due.is("kite(0, 6)", x.kite(0, WAX), 0);
        Due.is("wax(0)", x.wax(0), 1);
        x.undo();
        Due.is("undo of mode", x.undo(), 0);
        Due.is("kite(0, 8)", x.kite(0, MODE), 0);
        x.see(0, 1, 1);
        x.gust(5);
        x.holds(0, NONE);
        x.image();
        Due.is("no acts", x.count(12), 0);
        x = cutOne();
        x.undo();
        Due.is("a cut is undone", x.kite(0, FLIES), 1);
        Due.is("its height too", x.kite(0, HEIGHT), 5);
        x.gust(99);
        x.gusts(3, 1);
        Due.is("gusts are three acts more", x.count(12), 4);
    }

    private static void spareLonelyHighest() {
        Due.part("42, 43, 44");
        KiteVote x = Due.on("fb3;kl30h5g1;kp5l20h7g1;kp6h7;kp9h6g4");
        Due.is("spare(1)", x.spare(1), 38);
        Due.is("spare(0)", x.spare(0), 33);
        Due.is("spare(2) of nobody", x.spare(2), 0);
        Due.is("spare(4)", x.spare(4), 34);
        Due.is("spare(5)", x.spare(5), NONE);
        Due.is("spare(-1)", x.spare(-1), NONE);
        Due.is("spare without a field", new KiteVote().spare(0), NONE);
        Due.is("spare without a cut one", cutOne().spare(0), 35);
        Due.is("lonely()", x.lonely(), 9);
        x.move(0, 1);
        Due.is("lonely()", x.lonely(), 9);
        x.move(2, 1);
        Due.is("lonely()", x.lonely(), 15);
        x.move(2, 1);
        Due.is("lonely()", x.lonely(), 3);
        Due.is("lonely without a field", new KiteVote().lonely(), NONE);
        Due.is("lonely beside a cut one", cutOne().lonely(), 2);
        Due.is("highest()", x.highest(), 1);
        Due.is("highest of low ones", Due.on("k;k").highest(), 0);
        Due.is("highest without a field", new KiteVote().highest(), NONE);
        Due.is("highest beside a cut one", cutOne().highest(), 1);
        Due.is("highest of nobody", nobody().highest(), NONE);
        Due.is("lonely of nobody", nobody().lonely(), 0);
    }

    private static KiteVote nobody() {
        KiteVote x = Due.on("fb9;as3;kw3h5;kw3h5");
        Due.rule(x, 1, "y:9");
        x.go(2);
        Due.is("nobody flies", x.count(1), 0);
        return x;
    }

    private static void imageAndBack() {
        Due.part("45, 46");
        Due.is("image without a field", new KiteVote().image(), NONE);
        Due.is("back without a field", new KiteVote().back(), NONE);
        KiteVote x = Due.on("fb2;as5;kw3h5o1m1;kp4h1");
        Due.is("back without an image", x.back(), NONE);
        x.go(2);
        x.sit();
        x.wax(0);
        x.go(1);
        Due.is("image()", x.image(), 1);
        x.go(1);
        x.sit();
        x.talk(0, 0);
        x.move(0, 1);
        x.gust(4);
        x.see(0, 1, 1);
        Due.is("back()", x.back(), 1);
        Due.is("count(7)", x.count(7), 1);
        Due.is("count(8)", x.count(8), 4);
        Due.is("count(9)", x.count(9), 1);
        Due.is("count(10)", x.count(10), 1);
        Due.is("count(11)", x.count(11), 1);
        Due.is("count(12)", x.count(12), 0);
        Due.is("kite(0, 0)", x.kite(0, PLACE), 0);
        Due.is("kite(0, 5)", x.kite(0, OPINION), 1);
        Due.is("wax(0) as in the image", x.wax(0), NONE);
        Due.is("undo()", x.undo(), NONE);
        x.talk(0, 2);
        Due.is("count(12)", x.count(12), 1);
        Due.is("back() again", x.back(), 1);
        Due.is("kite(0, 5)", x.kite(0, OPINION), 1);
        x.talk(0, 2);
        Due.is("image() instead", x.image(), 1);
        Due.is("an image is no end of acts", x.count(12), 1);
        x.talk(0, 1);
        x.back();
        Due.is("kite(0, 5)", x.kite(0, OPINION), 2);
        // the book of the image comes back, though another was written over it
        x = Due.on("fb1;as3;kw3h5o1");
        x.go(1);
        x.sit();
        x.image();
        x.undo();
        x.talk(0, 0);
        x.sit();
        Due.is("book(0)", x.book(0), 0);
        x.back();
        Due.is("book(0)", x.book(0), 1);
        Due.is("count(9)", x.count(9), 1);
    }

    private static void count() {
        Due.part("47");
        KiteVote x = Due.on("fb2;a;as5;kw3h5o1;kp4h1;kp5h1");
        Due.feed(x, "y:s-w");
        x.text(1);
        Due.feed(x, "y:1");
        x.text(1);
        x.holds(0, 1);
        x.holds(1, 0);
        Due.feed(x, "abc");
        x.go(2);
        x.sit();
        x.go(1);
        x.gust(3);
        x.see(0, 1, 1);
        int[] counts = {3, 3, 2, 2, 3, 1, 0, 1, 3, 1, 1, 1, 4, HIDDEN};
        for (int i = 0; i < counts.length; i++) {
            Due.is("count(" + i + ")", x.count(i), counts[i]);
        }
        Due.is("count(-1)", x.count(-1), HIDDEN);
        Due.is("count(1) beside a cut one", cutOne().count(1), 1);
        Due.is("count(0) with a cut one", cutOne().count(0), 2);
    }
}
