/** The edges that the Terms name under ==== 1.: texts of FIELDS and of LAWS, faults, what a law is worth. */
public final class TextEdgeTests {
    private static final int NONE = KiteVote.NONE;

    private TextEdgeTests() {
    }

    public static void main(String[] args) {
        tests();
        Due.close();
    }

    static void tests() {
        calls();
        clauses();
        letters();
        numbers();
        items();
        fitting();
        blanks();
        early();
        lawTexts();
        nesting();
        bounds();
        division();
        worths();
    }

    private static void calls() {
        Edge.test("An object is used for at most 512 calls", () -> {
            KiteVote x = Edge.on("fb60;as5;kw3l60h2m1");
            for (int i = 0; i < 255; i++) {
                Due.is("go(1)", x.go(1), 1);
                Due.is("undo()", x.undo(), 0);
            }
            Due.is("the 512th call", x.kite(0, Edge.HEIGHT), 2);
        });
        Edge.test("the constant NONE is -1", () -> Due.is("NONE", constant("NONE"), -1));
        Edge.test("the constant HIDDEN is -1000000", () -> Due.is("HIDDEN", constant("HIDDEN"), -1000000));
    }

    /** As the class has it, which is not what was compiled into this one. */
    private static int constant(String name) {
        try {
            return KiteVote.class.getField(name).getInt(null);
        } catch (ReflectiveOperationException e) {
            return 0;
        }
    }

    // ---- the CLAUSES of a FIELD

    private static void clauses() {
        Edge.test("k (a KITE; 1 .. 8): one", () -> {
            Edge.field("k", NONE);
            Due.is("count(0)", Edge.on("k").count(0), 1);
        });
        Edge.test("k (a KITE; 1 .. 8): none is a FAULT, the length", () -> {
            Edge.field("f", 1);
            Edge.field("a;f", 3);
            Edge.field("fw9; a ", 7);
        });
        Edge.test("k (a KITE; 1 .. 8): eight", () -> {
            Edge.field("k;k;k;k;k;k;k;k", NONE);
            KiteVote x = Edge.on("k;k;k;k;k;k;k;kh9");
            Due.is("count(0)", x.count(0), 8);
            Edge.row(x, Edge.HEIGHT, 0, 0, 0, 0, 0, 0, 0, 9);
            x.mode(7, 1);
            Due.is("ahead of the eighth", x.ahead(7, 1, 1), 14);
            Due.is("lift of the eighth", x.lift(7), -3);
        });
        Edge.test("FAULT: a ninth k at it", () -> {
            Edge.field("k;k;k;k;k;k;k;k;k", 16);
            Edge.field(" k;k;k;k;k;k;k;k ; kp9", 19);
        });
        Edge.test("a (AIR; none to 6): none", () -> {
            Edge.field("k", NONE);
            Due.is("count(2)", Edge.on("k").count(2), 0);
            Due.is("wind", Edge.on("k").wind(0, 0), 0);
        });
        Edge.test("a (AIR; none to 6): six", () -> {
            Edge.field("a;a;a;a;a;a;k", NONE);
            KiteVote x = Edge.on("af9s1;an9s2;a;a;as8;kh9l9;an60s7");
            Due.is("count(2)", x.count(2), 6);
            Due.is("wind of the fifth", x.wind(0, 0), 8);
            Due.is("wind of the sixth", x.wind(0, 60), 7);
        });
        Edge.test("FAULT: a seventh a at it", () -> {
            Edge.field("a;a;a;a;a;a;a;k", 12);
            Edge.field("k;a;a;a;a;a;a;as1", 14);
        });
        Edge.test("a ninth k and a seventh a are counted apart", () -> {
            Edge.field("a;a;a;a;a;a;k;k;k;k;k;k;k;k", NONE);
            Edge.field("f;a;a;a;a;a;a;k;k;k;k;k;k;k;k", NONE);
        });
        Edge.test("f (the LAW; one at most): none", () -> {
            KiteVote x = Edge.on("k");
            int[] without = {20, 20, 50, 5};
            for (int i = 0; i < 4; i++) {
                Due.is("law(" + i + ")", x.law(i), without[i]);
            }
        });
        Edge.test("FAULT: a second f at it", () -> {
            Edge.field("f;f;k", 2);
            Edge.field("fw9;k;fb3", 6);
            Edge.field("k; f;k; f", 8);
        });
        Edge.test("in any order", () -> {
            KiteVote x = Edge.on("a;kh3;fb7;k;as2");
            Due.is("count(0)", x.count(0), 2);
            Due.is("count(2)", x.count(2), 2);
            Due.is("law(1)", x.law(1), 7);
            Edge.row(x, Edge.HEIGHT, 3, 0);
        });
        Edge.test("CLAUSES with ; between: none is empty", () -> {
            Edge.field("", 0);
            Edge.field(";k", 0);
            Edge.field("k;;k", 2);
            Edge.field("k ; ; k", 4);
        });
        Edge.test("CLAUSES with ; between: no other sign is between", () -> {
            Edge.field("k,k", 1);
            Edge.field("k:k", 1);
            Edge.field("kk", 1);
            Edge.field("kp1k", 3);
        });
        Edge.test("a CLAUSE begins with f, k or a alone", () -> {
            for (int b = 1; b < 256; b++) {
                if (b != ' ' && b != 'f' && b != 'k' && b != 'a') {
                    Edge.field("" + (char) b, 0);
                    Edge.field("k;" + (char) b, 2);
                }
            }
        });
    }

    private static final String[] CLAUSES = {"f", "k", "a"};
    private static final String[] LETTERS = {"wbmr", "pwlhoxgm", "fns"};

    private static void letters() {
        Edge.test("ITEMS, none or more", () -> {
            Edge.field("f;k;a", NONE);
            Edge.field("fw1b1m1r1;kp0w1l1h1o1x1g1m1;af1n1s1", NONE);
            Edge.field("fr1m1b1w1;km1g1x1o1h1l1w1p0;as1n1f1", NONE);
        });
        Edge.test("FAULT: a letter that was there, at it", () -> {
            for (int i = 0; i < 3; i++) {
                for (char c : LETTERS[i].toCharArray()) {
                    Edge.field(CLAUSES[i] + c + "1" + c + "1", 3);
                }
            }
            Edge.field("kw1p3w1", 5);
            Edge.field("kw1 w", 4);
        });
        Edge.test("each letter once in a CLAUSE: in another one again", () -> {
            Edge.field("fw9;kw1;kw1", NONE);
            Edge.field("fm1;km1", NONE);
            Edge.field("as1;as1;k", NONE);
        });
        Edge.test("ITEMS: no other letter, nor one of another CLAUSE", () -> {
            for (int i = 0; i < 3; i++) {
                for (int b = 1; b < 256; b++) {
                    if (b != ' ' && b != ';' && LETTERS[i].indexOf(b) < 0) {
                        Edge.field(CLAUSES[i] + (char) b + "1", 1);
                    }
                }
            }
        });
        Edge.test("a letter, then the number: never the other way", () -> {
            Edge.field("k1w", 1);
            Edge.field("k9", 1);
        });
    }

    private static void numbers() {
        Edge.test("a number (one or two digits): none is a FAULT", () -> {
            Edge.field("kw", 2);
            Edge.field("kw;k", 2);
            Edge.field("kwp1", 2);
            Edge.field("kw  ", 4);
            Edge.field("kw-1", 2);
            Edge.field("kw+1", 2);
            Edge.field("fb ;k", 3);
        });
        Edge.test("a number (one or two digits): signs beside the digits are none", () -> {
            Edge.field("kw/", 2);
            Edge.field("kw:", 2);
            Edge.field("kl1/", 3);
            Edge.field("kl1:", 3);
        });
        Edge.test("a number (one or two digits): 0 ahead", () -> {
            Edge.field("kw09", NONE);
            Due.is("kite(0, 1)", Edge.on("kw09").kite(0, Edge.WEIGHT), 9);
            Due.is("kite(0, 2)", Edge.on("kl90").kite(0, Edge.LINE), 90);
        });
        Edge.test("FAULT: a third digit itself", () -> {
            Edge.field("kl100", 4);
            Edge.field("kl000", 4);
            Edge.field("kw001", 4);
            Edge.field("fb010;k", 4);
        });
        Edge.test("FAULT: a third digit itself, whatever stands ahead of it", () -> {
            Edge.field("kw999", 4);
            Edge.field("fw000;k", 4);
            Edge.field("fw211;k", 4);
            Edge.field("km300", 4);
        });
        Edge.test("FAULT: a number out of bounds is wrong at its last digit", () -> {
            Edge.field("kw0", 2);
            Edge.field("kw00", 3);
            Edge.field("kw10", 3);
            Edge.field("kp20", 3);
            Edge.field("ko3", 2);
            Edge.field("kw0;x", 2);
            Edge.field("kw 10;k", 4);
        });
    }

    // ---- the numbers' bounds, and what they are without

    private static void items() {
        item("f", 'w', "WIDTH (1 .. 20; 20 without)", 1, 20, 20);
        item("f", 'b', "BELL (1 .. 60; 20)", 1, 60, 20);
        item("f", 'm', "MAJORITY (0 .. 99; 50)", 0, 99, 50);
        item("f", 'r', "what it PAYS a MINUTE (1 .. 9; 5)", 1, 9, 5);
        item("k", 'p', "PLACE (0 .. 19; without its number)", 0, 19, 0);
        item("k", 'w', "WEIGHT (1 .. 9; 3)", 1, 9, 3);
        item("k", 'l', "LINE (0 .. 99; 40)", 0, 99, 40);
        item("k", 'h', "HEIGHT (0 .. 99; 0)", 0, 99, 0);
        item("k", 'o', "OPINION (0 nay, 1 yea, 2 ABSTAINS; 0)", 0, 2, 0);
        item("k", 'x', "WAX (0 .. 9; 0)", 0, 9, 0);
        item("k", 'g', "CLAN (0 .. 4; 0)", 0, 4, 0);
        item("k", 'm', "MODE (0 holds, 1 pays out, 2 hauls; 0)", 0, 2, 0);
        item("a", 'f', "FROM which HEIGHT (0 .. 99; 0)", 0, 99, 0);
        item("a", 'n', "from which MINUTE (0 .. 60; 0)", 0, 60, 0);
        item("a", 's', "STRENGTH (0 .. 9; 4)", 0, 9, 4);
        Edge.test("PLACE without its number: each KITE's own", () -> {
            KiteVote x = Edge.on("k;kp9;k;k;k;k;k;k");
            Edge.row(x, Edge.PLACE, 0, 9, 2, 3, 4, 5, 6, 7);
        });
        Edge.test("without: an ITEM of the CLAUSE ahead does not stay", () -> {
            KiteVote x = Edge.on("kw9l9h9o2x9g4m2;k");
            int[] without = {1, 3, 40, 0, 0, 0, 0, 0, 0};
            for (int what = 0; what < without.length; what++) {
                Due.is("kite(1, " + what + ")", x.kite(1, what), without[what]);
            }
            x = Edge.on("af50n9s9;a;k");
            Due.is("wind of plain AIR", x.wind(0, 0), 4);
        });
    }

    private static void item(String clause, char letter, String words, int least, int most, int without) {
        String name = letter + " " + words + " of " + clause;
        Edge.test(name + ": the least", () -> {
            Edge.field(around(clause, letter, "" + least), NONE);
            Due.is("it", told(clause, letter, "" + least), least);
        });
        Edge.test(name + ": the most", () -> {
            Edge.field(around(clause, letter, "" + most), NONE);
            Due.is("it", told(clause, letter, "" + most), most);
        });
        Edge.test(name + ": one in between", () -> {
            int middle = (least + most) / 2;
            Due.is("it", told(clause, letter, "" + middle), middle);
        });
        int at = around(clause, letter, "").indexOf(letter, 1) + 1;
        if (least > 0) {
            Edge.test(name + ": too small", () -> {
                Edge.field(around(clause, letter, "0"), at);
                Edge.field(around(clause, letter, "00"), at + 1);
            });
        }
        Edge.test(name + ": too large", () -> {
            String more = "" + (most + 1);
            Edge.field(around(clause, letter, more), at + more.length() - 1);
            if (most < 99) {
                Edge.field(around(clause, letter, "99"), at + 1);
            }
        });
        Edge.test(name + ": without", () -> Due.is("it", told(clause, letter, ""), without));
    }

    /** A text with this number in it; a LINE of 99 ahead of a HEIGHT. */
    private static String around(String clause, char letter, String number) {
        String item = clause + (letter == 'h' ? "l99" : "") + letter + number;
        return clause.equals("k") ? item : item + ";k";
    }

    private static int told(String clause, char letter, String number) {
        String text = number.isEmpty() ? (clause.equals("k") ? "k" : clause + ";k") : around(clause, letter, number);
        KiteVote x = Edge.on(text);
        if (clause.equals("f")) {
            return x.law("wbmr".indexOf(letter));
        }
        if (clause.equals("k")) {
            return x.kite(0, "pwl-hoxgm".indexOf(letter));
        }
        int first = NONE;
        for (int i = 99; i >= 0; i--) {
            boolean blows = letter == 'f' ? x.wind(i, 60) > 0 : i <= 60 && x.wind(99, i) > 0;
            first = blows ? i : first;
        }
        return letter == 's' ? x.wind(99, 60) : first;
    }

    // ---- what no single byte is wrong for

    private static void fitting() {
        Edge.test("FAULT, the length: a PLACE that is no less than WIDTH", () -> {
            Edge.field("fw5;kp4", NONE);
            Edge.field("fw5;kp5", 7);
            Edge.field("fw5;kp6;k", 9);
            Edge.field("kp5;fw5", 7);
            Edge.field("fw1;k", NONE);
            Edge.field("fw1;kp1", 7);
            Edge.field("fw20;kp19", NONE);
        });
        Edge.test("FAULT, the length: a PLACE by its number that is no less than WIDTH", () -> {
            Edge.field("fw1;k;k", 7);
            Edge.field("fw7;k;k;k;k;k;k;k;k", 19);
            Edge.field("fw8;k;k;k;k;k;k;k;k", NONE);
        });
        Edge.test("FAULT, the length: two KITES in one PLACE", () -> {
            Edge.field("kp3;kp3", 7);
            Edge.field("kp1;k", 5);
            Edge.field("k;kp0;k", 7);
            Edge.field("kp19;k;kp19", 11);
            Edge.field("kp19;kp18", NONE);
        });
        Edge.test("FAULT, the length: a HEIGHT above the LINE", () -> {
            Edge.field("kl5h6", 5);
            Edge.field("kh6l5", 5);
            Edge.field("kl0h1", 5);
            Edge.field("kh41", 4);
            Edge.field("k;kh41", 6);
        });
        Edge.test("a HEIGHT as the LINE is none above it", () -> {
            Edge.field("kl5h5", NONE);
            Edge.field("kl0", NONE);
            Edge.field("kh40", NONE);
            Edge.field("kl99h99", NONE);
        });
        Edge.test("FAULT, the length: blanks at the end are of it", () -> {
            Edge.field("kl5h6  ", 7);
            Edge.field("a   ", 4);
            Edge.field("kp1;k ", 6);
        });
        Edge.test("FAULT: the first byte that is wrong comes ahead of the length", () -> {
            Edge.field("kl5h6;x", 6);
            Edge.field("kp3;kp3;kw0", 10);
            Edge.field("fw5;kp5;k1", 9);
        });
    }

    private static void blanks() {
        Edge.test("Blanks (32) may stand between all signs of a FIELD", () -> {
            Edge.field("  f  w  9  b  12 ;  k  p  3  h  2  ;  a  s  1  ", NONE);
            KiteVote x = Edge.on("  f  w  9  b  12 ;  k  p  3  h  2  ;  a  s  1  ");
            Due.is("law(0)", x.law(0), 9);
            Due.is("law(1)", x.law(1), 12);
            Edge.row(x, Edge.PLACE, 3);
            Due.is("wind", x.wind(0, 0), 1);
        });
        Edge.test("Blanks may stand between all signs of a LAW", () -> {
            Edge.law("  y  :  !  (  s  =  12  &  w  <  3  )  |  h  >  [  2  *  3  ]  ?  4  ;  y  :  5  ", NONE);
            Due.is("lift", lift(" y : ( w = 2 ) & h > [ 0 + 1 ] ? 4 ; y : 5 "), 4);
        });
        Edge.test("Blanks: not within numbers of a FIELD", () -> {
            Edge.field("kl1 0", 4);
            Edge.field("kl10 0", 5);
            Edge.field("fw1 0;k", 4);
        });
        Edge.test("Blanks: not within numbers of a LAW", () -> {
            Edge.law("y:1 2", 4);
            Edge.law("y:12 34", 5);
            Edge.law("y:1234 5", 7);
        });
        Edge.test("Blanks: no other byte is one", () -> {
            for (int b = 1; b < 256; b++) {
                if (b != ' ') {
                    Edge.field("k" + (char) b + ";k", b == ';' ? 2 : "pwlhoxgm".indexOf(b) < 0 ? 1 : 2);
                }
            }
            Edge.law("\ty:1", 0);
            Edge.law("y\n:1", 1);
            Edge.law("y:1\u00a0", 3);
        });
        Edge.test("Blanks alone: it ends too early", () -> {
            Edge.field("   ", 3);
            Edge.law("   ", 3);
        });
    }

    private static void early() {
        Edge.test("FAULT: the length, if a FIELD ends too early", () -> {
            int[] due = {0, 1, 2, 3, 4, NONE, 6, NONE, 8, NONE, 10, NONE, 12, NONE};
            String text = "fw9;kp3h2;an1";
            for (int n = 0; n <= text.length(); n++) {
                Edge.field(text.substring(0, n), due[n]);
            }
        });
        Edge.test("FAULT: the length, if a LAW ends too early", () -> {
            String text = "y:!(s=1)&h<[2+p]?3;y:4";
            for (int n = 0; n <= text.length(); n++) {
                Edge.law(text.substring(0, n), n == 18 || n == 22 ? NONE : n);
            }
            text = "y:s*w/3-d>0|b=0?a";
            for (int n = 0; n <= text.length(); n++) {
                Edge.law(text.substring(0, n), n == 3 || n == 5 || n == 7 || n == 9 || n == 17 ? NONE : n);
            }
        });
        Edge.test("FAULT: none", () -> {
            Edge.field("fw9b3;kp3;kp8o1;an1", NONE);
            Edge.law("y:s=1?2;y:3", NONE);
        });
    }

    // ---- the texts of LAWS

    private static void lawTexts() {
        Edge.test("LAWS: CLAUSES with ; between, one at least", () -> {
            Edge.law("", 0);
            Edge.law("y:1", NONE);
            Edge.law("y:1;", 4);
            Edge.law(";y:1", 0);
            Edge.law("y:1;;y:2", 4);
            Edge.law("y:1 y:2", 4);
        });
        Edge.test("LAWS: as many CLAUSES as the TAPE holds", () -> {
            Edge.law(Due.pad("y:1;", 59) + "y:1", NONE);
            Edge.law(Due.pad("y:1;", 60), 240);
            KiteVote x = Edge.on("k", Due.pad("y:0=1?1;", 29) + "y:7", null);
            Due.is("lift by the thirtieth", x.lift(0), 7);
        });
        Edge.test("LAWS: y, then :", () -> {
            Edge.law("x:1", 0);
            Edge.law("Y:1", 0);
            Edge.law("y;1", 1);
            Edge.law("y1", 1);
            Edge.law("yy:1", 1);
            Edge.law(":1", 0);
        });
        Edge.test("perhaps CONDITION ?, then SUM: never two", () -> {
            Edge.law("y:s=1?2?3", 7);
            Edge.law("y:s=1?h=2?3", 7);
            Edge.law("y:s?1", 3);
            Edge.law("y:?1", 2);
            Edge.law("y:s=1??2", 6);
        });
        Edge.test("perhaps CONDITION ?, then SUM: not without the SUM", () -> {
            Edge.law("y:s=1?", 6);
            Edge.law("y:s=1?;y:2", 6);
            Edge.law("y:s=1;y:2", 5);
            Edge.law("y:", 2);
            Edge.law("y:;y:1", 2);
        });
        Edge.test("CONDITION: TRUTHS with | between, UNITS with & between", () -> {
            Edge.law("y:s=1|?2", 6);
            Edge.law("y:s=1&?2", 6);
            Edge.law("y:s=1||h=1?2", 6);
            Edge.law("y:s=1&&h=1?2", 6);
            Edge.law("y:s=1|&h=1?2", 6);
            Edge.law("y:|s=1?2", 2);
            Edge.law("y:s=1 h=1?2", 6);
        });
        Edge.test("UNIT: SUM, one of = < >, SUM", () -> {
            Edge.law("y:s==1?2", 4);
            Edge.law("y:s<>1?2", 4);
            Edge.law("y:s=1=2?3", 5);
            Edge.law("y:=1?2", 2);
            Edge.law("y:s=?1", 4);
            Edge.law("y:s=1&h?2", 7);
            Edge.law("y:s#1?2", 3);
        });
        Edge.test("UNIT: ( CONDITION )", () -> {
            Edge.law("y:()?2", 3);
            Edge.law("y:(s)?2", 4);
            Edge.law("y:(s=1?2", 6);
            Edge.law("y:(s=1]?2", 6);
            Edge.law("y:(s=1))?2", 7);
            Edge.law("y:s=1)?2", 5);
            Edge.law("y:(s=1)=1?2", 7);
        });
        Edge.test("A CLAUSE that goes on with ! or ( behind its : has a CONDITION", () -> {
            Edge.law("y:(s)", 4);
            Edge.law("y:(1)+2", 4);
            Edge.law("y:!s", 4);
            Edge.law("y:!s?1", 4);
            Edge.law("y:(s=1)", 7);
            Edge.law("y:!s=1", 6);
            Edge.law("y: ( s = 1 ) + 1", 13);
        });
        Edge.test("! and ( stand for UNITS alone, not for ATOMS", () -> {
            Edge.law("y:1+(1)", 4);
            Edge.law("y:1+!1", 4);
            Edge.law("y:[(1)]", 3);
            Edge.law("y:s=(1)?2", 4);
            Edge.law("y:s=1?(2)", 6);
            Edge.law("y:s=1?!2", 6);
        });
        Edge.test("SUM, TERM: none ends or begins with a sign", () -> {
            Edge.law("y:-1", 2);
            Edge.law("y:+1", 2);
            Edge.law("y:*1", 2);
            Edge.law("y:1+", 4);
            Edge.law("y:1*;y:1", 4);
            Edge.law("y:1+-1", 4);
            Edge.law("y:1*/1", 4);
        });
        Edge.test("ATOM: [ SUM ]", () -> {
            Edge.law("y:[]", 3);
            Edge.law("y:[1", 4);
            Edge.law("y:[1)", 4);
            Edge.law("y:[1]]", 5);
            Edge.law("y:[s=1]?2", 4);
            Edge.law("y:1]", 3);
        });
        Edge.test("ATOM: a letter (s w h p a b d t), no other byte", () -> {
            for (int b = 1; b < 256; b++) {
                boolean begins = "swhpabdt0123456789".indexOf(b) >= 0;
                if (!begins && " ([!".indexOf(b) < 0) {
                    Edge.law("y:" + (char) b, 2);
                    Edge.law("y:1+" + (char) b, 4);
                }
                if (begins) {
                    Edge.law("y:" + (char) b, NONE);
                }
            }
            Edge.law("y:sw", 3);
            Edge.law("y:s1", 3);
            Edge.law("y:1s", 3);
        });
        Edge.test("ATOM: a number (1 to 4 digits)", () -> {
            Edge.law("y:0", NONE);
            Edge.law("y:9999", NONE);
            Edge.law("y:0000", NONE);
            Due.is("lift by 0007", lift("y:0007"), 7);
            Due.is("lift by 9999", lift("y:9999-9995"), 4);
        });
        Edge.test("FAULT: a fifth digit in a LAW itself, whatever stands ahead of it", () -> {
            Edge.law("y:12345", 6);
            Edge.law("y:00000", 6);
            Edge.law("y:s+10000", 8);
            Edge.law("y:s=10000?1", 8);
            Edge.law("y:[99999]", 7);
        });
        Edge.test("LAWS (6 at most)", () -> {
            KiteVote x = new KiteVote();
            for (int i = 0; i < 6; i++) {
                Due.feed(x, "y:" + (i + 1));
                Due.is("text(1)", x.text(1), i);
            }
            Due.feed(x, "y:7");
            Due.is("text(1) of a seventh", x.text(1), NONE);
        });
    }

    private static void nesting() {
        Edge.test("At most six of ( [ ! within one another: six of each", () -> {
            Edge.law("y:((((((s=1))))))?1", NONE);
            Edge.law("y:[[[[[[s]]]]]]", NONE);
            Edge.law("y:!!!!!!s=1?1", NONE);
        });
        Edge.test("FAULT: a seventh of ( at it", () -> Edge.law("y:(((((((s=1)))))))?1", 8));
        Edge.test("FAULT: a seventh of [ at it", () -> Edge.law("y:[[[[[[[s]]]]]]]", 8));
        Edge.test("FAULT: a seventh of ! at it", () -> Edge.law("y:!!!!!!!s=1?1", 8));
        Edge.test("At most six of ( [ ! within one another: all together", () -> {
            Edge.law("y:!(!([[s]]=1))?1", NONE);
            Edge.law("y:!(!([[[s]]]=1))?1", 8);
            Edge.law("y:!(!(!([s]=1)))?1", 8);
            Edge.law("y:(((((!(s=1))))))?1", 8);
            Edge.law("y:((((((!s=1))))))?1", 8);
            Edge.law("y:((((((s=[1]))))))?1", 10);
            Edge.law("y:(((((s=[[1]])))))?1", 10);
        });
        Edge.test("At most six within one another: beside one another any", () -> {
            Edge.law("y:!!!!!!s=1&!!!!!!h=1?[[[[[[1]]]]]]", NONE);
            Edge.law("y:[[[[[[s]]]]]]+[[[[[[s]]]]]]*[[[[[[s]]]]]]", NONE);
            Edge.law("y:((((((s=1))))))|((((((s=1))))))?1;y:[[[[[[1]]]]]]", NONE);
            Edge.law("y:!(s=1)&!(s=1)&!(s=1)&!(s=1)&!(s=1)&!(s=1)&!(s=1)?1", NONE);
            Edge.law("y:[1]+[1]+[1]+[1]+[1]+[1]+[1]+[1]", NONE);
        });
        Edge.test("At most six: a ! holds its own UNIT alone", () -> {
            Edge.law("y:!s=1&((((((s=1))))))?1", NONE);
            Edge.law("y:!s=1|[[[[[[1]]]]]]=1?1", NONE);
            Edge.law("y:!s=1&[[[[[[1]]]]]]=1?1", NONE);
            Edge.law("y:![[[[[1]]]]]=1?1", NONE);
            Edge.law("y:![[[[[[1]]]]]]=1?1", 8);
            Edge.law("y:!1=[[[[[[1]]]]]]?1", 10);
        });
        Edge.test("six within one another have their WORTH", () -> {
            Due.is("lift", lift("y:[[[[[[1]+1]+1]+1]+1]+1]+1"), 7);
            Due.is("lift", lift("y:!!!!!!w=2?1;y:2"), 1);
            Due.is("lift", lift("y:!!!!!w=2?1;y:2"), 2);
            Due.is("lift", lift("y:((((((w=2))))))?1;y:2"), 1);
        });
    }

    // ---- what LAWS are worth

    /** LIFT of a KITE of WEIGHT 2, HEIGHT and PAID 5, in WIND 6. */
    private static int lift(String law) {
        return Edge.on("fb9;as6;kw2l30h5m1", law, null).lift(0);
    }

    private static void bounds() {
        Edge.test("numbers are within .. 1,000,000: it itself", () ->
            Due.is("lift", lift("y:1000*1000-9999*100-95"), 5));
        Edge.test("numbers are within .. 1,000,000: one more, behind a +", () ->
            Due.is("lift", lift("y:1000*1000+1-9999*100-95"), 5));
        Edge.test("numbers are within .. 1,000,000: more, behind a -", () ->
            Due.is("lift", lift("y:1000*1000-[0-1]-9999*100-95"), 5));
        Edge.test("numbers are within .. 1,000,000: more, behind a *", () ->
            Due.is("lift", lift("y:9999*9999-9999*100-95"), 5));
        Edge.test("numbers are within .. 1,000,000: one less stays so", () ->
            Due.is("lift", lift("y:1000*1000-1-9999*100-95"), 4));
        Edge.test("numbers are within -1,000,000 ..: it itself", () ->
            Due.is("lift", lift("y:[0-1000*1000]+9999*100+95"), -5));
        Edge.test("numbers are within -1,000,000 ..: one less, behind a -", () ->
            Due.is("lift", lift("y:0-1000*1000-1+9999*100+95"), -5));
        Edge.test("numbers are within -1,000,000 ..: less, behind a +", () ->
            Due.is("lift", lift("y:0-1000*1000+[0-1]+9999*100+95"), -5));
        Edge.test("numbers are within -1,000,000 ..: less, behind a *", () ->
            Due.is("lift", lift("y:[0-9999]*9999+9999*100+95"), -5));
        Edge.test("numbers are within -1,000,000 ..: one more stays so", () ->
            Due.is("lift", lift("y:0-1000*1000+1+9999*100+95"), -4));
        Edge.test("numbers are within bounds behind each sign, not at the end alone", () -> {
            Due.is("lift", lift("y:1000*1000+1000*1000-1000*1000"), 0);
            Due.is("lift", lift("y:9999*9999/1000/1000"), 1);
            Due.is("lift", lift("y:[0-9999*9999]/1000/1000"), -1);
        });
        Edge.test("numbers go round nowhere: the most times the most", () -> {
            Due.is("lift", lift("y:1000*1000*[1000*1000]/1000/1000"), 1);
            Due.is("lift", lift("y:[0-1000*1000]*[1000*1000]/1000/1000"), -1);
            Due.is("lift", lift("y:[0-1000*1000]*[0-1000*1000]/1000/1000"), 1);
        });
        Edge.test("numbers are within bounds in a CONDITION, too", () -> {
            Due.is("lift", lift("y:9999*9999=1000*1000?1;y:2"), 1);
            Due.is("lift", lift("y:0-9999*9999<0-1000*1000?1;y:2"), 2);
        });
    }

    private static void division() {
        Edge.test("/ cuts towards 0", () -> {
            Due.is("7/2", lift("y:7/2"), 3);
            Due.is("-7/2", lift("y:[0-7]/2"), -3);
            Due.is("7/-2", lift("y:7/[0-2]"), -3);
            Due.is("-7/-2", lift("y:[0-7]/[0-2]"), 3);
            Due.is("1/2", lift("y:1/2"), 0);
            Due.is("-1/2", lift("y:[0-1]/2"), 0);
            Due.is("6/2", lift("y:6/2"), 3);
        });
        Edge.test("/ by 0 gives 0", () -> {
            Due.is("7/0", lift("y:7/0"), 0);
            Due.is("0/0", lift("y:0/0"), 0);
            Due.is("-7/0", lift("y:[0-7]/0"), 0);
            Due.is("7/0+4", lift("y:7/0+4"), 4);
            Due.is("7/[s-6]", lift("y:7/[s-6]"), 0);
            Due.is("7/1", lift("y:7/1"), 7);
        });
        Edge.test("TERMS go from the left", () -> {
            Due.is("9-3-2", lift("y:9-3-2"), 4);
            Due.is("8/2/2", lift("y:8/2/2"), 2);
            Due.is("7/2*2", lift("y:7/2*2"), 6);
            Due.is("1+2*3", lift("y:1+2*3"), 7);
            Due.is("[1+2]*3", lift("y:[1+2]*3"), 9);
        });
    }

    private static void worths() {
        Edge.test("WORTH: the SUM of the first CLAUSE whose CONDITION holds", () -> {
            Due.is("lift", lift("y:w=2?1;y:w=2?2"), 1);
            Due.is("lift", lift("y:w=3?1;y:w=2?2;y:h=5?3"), 2);
        });
        Edge.test("WORTH: the first CLAUSE that has no CONDITION", () -> {
            Due.is("lift", lift("y:1;y:w=2?2"), 1);
            Due.is("lift", lift("y:w=3?1;y:2;y:3"), 2);
        });
        Edge.test("WORTH: 0 without one that holds", () -> {
            Due.is("lift", lift("y:w=3?4"), 0);
            Due.is("lift", lift("y:w=3?4;y:h=4?5"), 0);
            Due.is("wear", Edge.on("kh5;kh5", null, "y:h=4?5").wear(0, 1), 0);
        });
        Edge.test("UNIT: = < > of numbers that are alike, one apart", () -> {
            Due.is("w=2", lift("y:w=2?1;y:2"), 1);
            Due.is("w=1", lift("y:w=1?1;y:2"), 2);
            Due.is("w=3", lift("y:w=3?1;y:2"), 2);
            Due.is("w<2", lift("y:w<2?1;y:2"), 2);
            Due.is("w<3", lift("y:w<3?1;y:2"), 1);
            Due.is("w>2", lift("y:w>2?1;y:2"), 2);
            Due.is("w>1", lift("y:w>1?1;y:2"), 1);
        });
        Edge.test("TRUTHS with | between: one that holds is enough, none is not", () -> {
            Due.is("yes|no", lift("y:w=2|w=1?1;y:2"), 1);
            Due.is("no|yes", lift("y:w=1|w=2?1;y:2"), 1);
            Due.is("yes|yes", lift("y:w=2|w=2?1;y:2"), 1);
            Due.is("no|no", lift("y:w=1|w=3?1;y:2"), 2);
        });
        Edge.test("UNITS with & between: all must hold", () -> {
            Due.is("yes&no", lift("y:w=2&w=1?1;y:2"), 2);
            Due.is("no&yes", lift("y:w=1&w=2?1;y:2"), 2);
            Due.is("yes&yes", lift("y:w=2&h=5?1;y:2"), 1);
            Due.is("no&no", lift("y:w=1&h=4?1;y:2"), 2);
        });
        Edge.test("UNITS with & between: of each kind that holds", () -> {
            String[] units = {"w=2", "w<3", "w>1", "!w=3", "(w=2)"};
            for (String one : units) {
                for (String other : units) {
                    Due.is(one + "&" + other, lift("y:" + one + "&" + other + "?1;y:2"), 1);
                    Due.is("!(" + one + "&" + other + ")", lift("y:!(" + one + "&" + other + ")?1;y:2"), 2);
                }
            }
        });
        Edge.test("& holds more than |", () -> {
            Due.is("yes|no&no", lift("y:w=2|w=1&h=1?1;y:2"), 1);
            Due.is("no&no|yes", lift("y:h=1&w=1|w=2?1;y:2"), 1);
            Due.is("(yes|no)&no", lift("y:(w=2|w=1)&h=1?1;y:2"), 2);
        });
        Edge.test("! holds its UNIT alone", () -> {
            Due.is("!no&no", lift("y:!w=1&w=1?1;y:2"), 2);
            Due.is("!no|no", lift("y:!w=1|w=1?1;y:2"), 1);
            Due.is("!(yes&no)", lift("y:!(w=2&h=1)?1;y:2"), 1);
            Due.is("!yes", lift("y:!w=2?1;y:2"), 2);
        });
    }
}
