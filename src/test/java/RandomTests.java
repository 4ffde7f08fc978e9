import java.util.NoSuchElementException;
import java.util.Random;

/** Random texts and random runs of calls, each answer beside the one of ReferenceVote. */
public final class RandomTests {
    private static final int METHODS = 46;
    private static final int[] BACK_TO_START = {19, 21, 43};
    private static final String OF_KITES = " 2 5 7 10 11 13 14 15 22 26 27 28 29 30 34 35 37 38 ";
    private static final String OF_TWO = " 7 14 28 34 35 ";

    private RandomTests() {
    }

    public static void main(String[] args) {
        int runs = args.length > 0 ? Integer.parseInt(args[0]) : 150;
        long from = args.length > 1 ? Long.parseLong(args[1]) : 1;
        for (long seed = from; seed < from + runs; seed++) {
            texts(new Random(seed), seed);
            run(new Random(seed), seed);
        }
        Due.close();
    }

    // ---- texts

    private static void texts(Random r, long seed) {
        Due.part("texts of seed " + seed);
        for (int i = 0; i < 20; i++) {
            String field = cut(spoiled(r, field(r, 3)));
            Due.is("fault(0) of '" + field + "'", Due.fault(0, field), ReferenceVote.fieldFault(field));
        }
        for (int i = 0; i < 8; i++) {
            String law = cut(r.nextBoolean() ? spoiled(r, law(r, 2)) : soup(r));
            Due.is("fault(1) of '" + law + "'", Due.fault(1, law), ReferenceVote.lawFault(law));
        }
    }

    private static String cut(String text) {
        return text.length() > 240 ? text.substring(0, 240) : text;
    }

    private static String spoiled(Random r, String text) {
        StringBuilder s = new StringBuilder(text);
        int times = r.nextInt(3);
        for (int i = 0; i < times && s.length() > 0; i++) {
            int at = r.nextInt(s.length());
            String signs = "yfka;:?!()[]|&=<>+-*/0123456789swhpabdtlogxmnr  z\u00ff";
            char c = signs.charAt(r.nextInt(signs.length()));
            switch (r.nextInt(4)) {
                case 0:
                    s.deleteCharAt(at);
                    break;
                case 1:
                    s.insert(at, c);
                    break;
                case 2:
                    s.setCharAt(at, c);
                    break;
                default:
                    s.setLength(at);
                    break;
            }
        }
        return s.toString();
    }

    /** Signs that go on mostly, so that depths and ends are met in many orders. */
    private static String soup(Random r) {
        StringBuilder s = new StringBuilder("y:");
        String signs = "!([[(!sh9=<>&|?)]+*";
        int n = r.nextInt(25);
        for (int i = 0; i < n; i++) {
            s.append(signs.charAt(r.nextInt(signs.length())));
            if (ReferenceVote.canGoOn(s.toString())) {
                continue;
            }
            if (r.nextInt(30) > 0) {
                s.setLength(s.length() - 1);
            }
        }
        return s.toString();
    }

    private static String blank(Random r) {
        return r.nextInt(40) == 0 ? " " : "";
    }

    private static String item(Random r, String letter, int least, int most, int ofTen) {
        if (r.nextInt(10) >= ofTen) {
            return "";
        }
        return blank(r) + letter + blank(r) + (least + r.nextInt(most - least + 1));
    }

    /** Wild: how many of a hundred texts may have places or heights that do not fit. */
    private static String field(Random r, int wild) {
        int width = 2 + r.nextInt(12);
        int kites = 1 + r.nextInt(Math.min(8, width));
        boolean any = r.nextInt(100) < wild;
        StringBuilder s = new StringBuilder("fw" + width);
        s.append(r.nextInt(8) == 0 ? "b" + (1 + r.nextInt(60)) : "b" + (1 + r.nextInt(14)));
        s.append(item(r, "m", 0, 99, 5)).append(item(r, "r", 1, 9, 5));
        int[] places = new int[width];
        for (int i = 0; i < width; i++) {
            places[i] = i;
        }
        for (int i = 0; i < kites; i++) {
            int j = i + r.nextInt(Math.min(width - i, 4));
            int p = places[j];
            places[j] = places[i];
            places[i] = p;
            int height = r.nextInt(3) == 0 ? 0 : r.nextInt(18);
            s.append(";").append(blank(r)).append("kp").append(any ? r.nextInt(20) : p);
            s.append(item(r, "w", 1, r.nextInt(3) == 0 ? 9 : 4, 8)).append(item(r, "l", any ? 0 : height, 99, 7)).append("h").append(height);
            s.append(item(r, "o", 0, 2, 7)).append(item(r, "x", 0, r.nextInt(3) == 0 ? 9 : 2, 4)).append(item(r, "g", 0, 2, 5));
            s.append(item(r, "m", 0, 2, 8));
        }
        int airs = r.nextInt(5);
        for (int i = 0; i < airs; i++) {
            s.append(";a").append(item(r, "f", 0, 25, 5)).append(item(r, "n", 0, 9, 4)).append(item(r, "s", r.nextInt(2) * 3, 9, 9));
        }
        return s.toString();
    }

    private static String law(Random r, int depth) {
        StringBuilder s = new StringBuilder();
        int clauses = 1 + r.nextInt(3);
        for (int i = 0; i < clauses; i++) {
            s.append(i == 0 ? "" : ";").append(blank(r)).append("y:");
            if (r.nextInt(3) > 0) {
                s.append(condition(r, depth)).append("?");
            }
            s.append(sum(r, depth));
        }
        return s.toString();
    }

    private static String condition(Random r, int depth) {
        StringBuilder s = new StringBuilder(unit(r, depth));
        for (int i = r.nextInt(3); i > 0; i--) {
            s.append(r.nextBoolean() ? "&" : "|").append(unit(r, depth));
        }
        return s.toString();
    }

    private static String unit(Random r, int depth) {
        int way = depth > 0 ? r.nextInt(6) : 2;
        if (way == 0) {
            return "!" + unit(r, depth - 1);
        }
        if (way == 1) {
            return "(" + condition(r, depth - 1) + ")";
        }
        return sum(r, depth - 1) + "=<>".charAt(r.nextInt(3)) + sum(r, depth - 1);
    }

    private static String sum(Random r, int depth) {
        StringBuilder s = new StringBuilder(atom(r, depth));
        for (int i = r.nextInt(3); i > 0; i--) {
            s.append("+-*/".charAt(r.nextInt(4))).append(blank(r)).append(atom(r, depth));
        }
        return s.toString();
    }

    private static String atom(Random r, int depth) {
        if (depth > 0 && r.nextInt(5) == 0) {
            return "[" + sum(r, depth - 1) + "]";
        }
        if (r.nextInt(3) == 0) {
            return "" + (r.nextInt(6) == 0 ? r.nextInt(10000) : r.nextInt(12));
        }
        return "" + "swhpabdt".charAt(r.nextInt(8));
    }

    // ---- runs

    private static void run(Random r, long seed) {
        Due.part("run of seed " + seed);
        KiteVote x = new KiteVote();
        ReferenceVote y = new ReferenceVote();
        int calls = 0;
        if (r.nextInt(20) > 0) {
            calls += tell(x, y, 0, field(r, 0));
        }
        for (int i = r.nextInt(4) - 1; i > 0; i--) {
            calls += tell(x, y, 1, law(r, 2));
        }
        while (calls < 300) {
            if (r.nextInt(150) == 0) {
                calls += tell(x, y, 0, field(r, 20));
            } else if (r.nextInt(100) == 0) {
                calls += tell(x, y, 1, law(r, 2));
            }
            int method = r.nextInt(3) == 0 && y.count(7) == y.law(1) ? BACK_TO_START[r.nextInt(3)] : r.nextInt(METHODS);
            int[] a = {small(r), small(r), small(r), small(r)};
            shape(r, method, a, y);
            String call = method + " (" + a[0] + ", " + a[1] + ", " + a[2] + ", " + a[3] + ") as call " + calls;
            Due.is(call, answer(x, method, a), answer(y, method, a));
            Due.is("what shows behind " + call, shows(x), shows(y));
            calls++;
        }
    }

    private static int small(Random r) {
        return r.nextInt(60) == 0 ? r.nextInt() : r.nextInt(10) - 1;
    }

    /** Mostly arguments at which something happens: kites that there are, bounds that are kept. */
    private static void shape(Random r, int method, int[] a, ReferenceVote y) {
        if (r.nextInt(8) == 0) {
            return;
        }
        int kites = Math.max(1, y.count(0));
        if (OF_KITES.indexOf(" " + method + " ") >= 0) {
            a[0] = r.nextInt(kites);
            a[1] = OF_TWO.indexOf(" " + method + " ") >= 0 ? r.nextInt(kites) : r.nextInt(3);
        }
        switch (method) {
            case 4:
                a[0] = r.nextInt(2);
                a[1] = r.nextInt(4) - 1;
                break;
            case 6:
                a[0] = r.nextInt(101);
                a[1] = r.nextInt(61);
                break;
            case 13:
                a[1] = r.nextBoolean() ? 1 : -1;
                break;
            case 14:
                a[2] = 1 + r.nextInt(12);
                break;
            case 16:
            case 18:
                a[0] = 1 + r.nextInt(4);
                break;
            case 17:
                a[0] = r.nextInt(100);
                break;
            case 22:
                a[2] = r.nextInt(4);
                break;
            case 32:
                a[0] = 1 + r.nextInt(60);
                break;
            case 34:
                a[2] = r.nextInt(6);
                a[3] = r.nextInt(6);
                break;
            case 35:
                a[2] = r.nextInt(4) - 1;
                break;
            case 36:
                a[0] = r.nextInt(3);
                a[1] = r.nextBoolean() ? -1 : r.nextInt(kites);
                break;
            case 37:
                shapeSeen(r, a, y);
                break;
            default:
                break;
        }
    }

    private static void shapeSeen(Random r, int[] a, ReferenceVote y) {
        a[1] = 1 + r.nextInt(r.nextBoolean() ? 2 : 9);
        int height = y.ahead(a[0], a[1], 0);
        a[2] = height >= 0 && r.nextInt(6) > 0 ? height : r.nextInt(30);
    }

    private static int tell(KiteVote x, ReferenceVote y, int sort, String text) {
        if (text.length() > 240) {
            return 0;
        }
        int calls = 2;
        Due.is("end(0)", x.end(0), y.end(0));
        for (int from = 0; from < text.length(); from += 20) {
            int[] w = Due.words(text, from);
            Due.is("feed", x.feed(w[0], w[1], w[2], w[3], w[4]), y.feed(w));
            calls++;
        }
        Due.is("text(" + sort + ") of " + text, x.text(sort), y.text(sort));
        return calls;
    }

    private static long shows(KiteVote x) {
        long sum = 0;
        for (int what = -1; what < 14; what++) {
            sum = sum * 31 + x.count(what);
        }
        for (int kite = 0; kite < x.count(0); kite++) {
            for (int what = 0; what < 12; what++) {
                sum = sum * 31 + x.kite(kite, what);
            }
        }
        return sum;
    }

    private static long shows(ReferenceVote y) {
        long sum = 0;
        for (int what = -1; what < 14; what++) {
            sum = sum * 31 + y.count(what);
        }
        for (int kite = 0; kite < y.count(0); kite++) {
            for (int what = 0; what < 12; what++) {
                sum = sum * 31 + y.kite(kite, what);
            }
        }
        return sum;
    }

    private static long flag(boolean b) {
        return b ? 1 : 0;
    }

    private static long answer(KiteVote x, int method, int[] a) {
        switch (method) {
            case 0: return a[0] < 3 ? x.fault(a[0]) : 0;
            case 1: return flag(x.end(a[0]));
            case 2:
                try {
                    return x.kite(a[0], a[1]);
                } catch (NoSuchElementException e) {
                    return Long.MIN_VALUE;
                }
            case 3: return x.law(a[0]);
            case 4: return flag(x.holds(a[0], a[1]));
            case 5: return x.lift(a[0]);
            case 6: return x.wind(a[0], a[1]);
            case 7: return x.wear(a[0], a[1]);
            case 8: return x.feet(a[0]);
            case 9: return x.result();
            case 10: return flag(x.mode(a[0], a[1]));
            case 11: return x.wax(a[0]);
            case 12: return x.text(a[0]);
            case 13: return x.move(a[0], a[1]);
            case 14: return x.splice(a[0], a[1], a[2]);
            case 15: return flag(x.talk(a[0], a[1]));
            case 16: return x.go(a[0]);
            case 17: return flag(x.gust(a[0]));
            case 18: return x.gusts(a[0], a[1] * 1000003L * a[2]);
            case 19: return x.sit();
            case 20: return x.book(a[0]);
            case 21: return x.undo();
            case 22: return x.ahead(a[0], a[1], a[2]);
            case 23: return x.bell(a[0]);
            case 24: return x.cut(a[0]);
            default: return answerLater(x, method, a);
        }
    }

    private static long answerLater(KiteVote x, int method, int[] a) {
        switch (method) {
            case 25: return x.calm();
            case 26: return x.timing(a[0], a[1]);
            case 27: return x.stand(a[0], a[1]);
            case 28: return x.cross(a[0], a[1]);
            case 29: return x.prey(a[0]);
            case 30: return x.power(a[0]);
            case 31: return x.talked();
            case 32: return x.content(a[0]);
            case 33: return x.ringer(a[0]);
            case 34: return x.duel(a[0], a[1], a[2], a[3]);
            case 35: return x.rests(a[0], a[1], a[2]);
            case 36: return x.clan(a[0], a[1]);
            case 37: return x.see(a[0], a[1], a[2]);
            case 38: return x.weighs(a[0]);
            case 39: return x.spare(a[0]);
            case 40: return x.lonely();
            case 41: return x.highest();
            case 42: return x.image();
            case 43: return x.back();
            case 44: return x.feed(a[0], a[1], a[2], a[3], 0);
            default: return x.count(a[0]);
        }
    }

    private static long answer(ReferenceVote y, int method, int[] a) {
        switch (method) {
            case 0: return a[0] < 3 ? y.fault(a[0]) : 0;
            case 1: return flag(y.end(a[0]));
            case 2:
                try {
                    return y.kite(a[0], a[1]);
                } catch (NoSuchElementException e) {
                    return Long.MIN_VALUE;
                }
            case 3: return y.law(a[0]);
            case 4: return flag(y.holds(a[0], a[1]));
            case 5: return y.lift(a[0]);
            case 6: return y.wind(a[0], a[1]);
            case 7: return y.wear(a[0], a[1]);
            case 8: return y.feet(a[0]);
            case 9: return y.result();
            case 10: return flag(y.mode(a[0], a[1]));
            case 11: return y.wax(a[0]);
            case 12: return y.text(a[0]);
            case 13: return y.move(a[0], a[1]);
            case 14: return y.splice(a[0], a[1], a[2]);
            case 15: return flag(y.talk(a[0], a[1]));
            case 16: return y.go(a[0]);
            case 17: return flag(y.gust(a[0]));
            case 18: return y.gusts(a[0], a[1] * 1000003L * a[2]);
            case 19: return y.sit();
            case 20: return y.book(a[0]);
            case 21: return y.undo();
            case 22: return y.ahead(a[0], a[1], a[2]);
            case 23: return y.bell(a[0]);
            case 24: return y.cut(a[0]);
            default: return answerLater(y, method, a);
        }
    }

    private static long answerLater(ReferenceVote y, int method, int[] a) {
        switch (method) {
            case 25: return y.calm();
            case 26: return y.timing(a[0], a[1]);
            case 27: return y.stand(a[0], a[1]);
            case 28: return y.cross(a[0], a[1]);
            case 29: return y.prey(a[0]);
            case 30: return y.power(a[0]);
            case 31: return y.talked();
            case 32: return y.content(a[0]);
            case 33: return y.ringer(a[0]);
            case 34: return y.duel(a[0], a[1], a[2], a[3]);
            case 35: return y.rests(a[0], a[1], a[2]);
            case 36: return y.clan(a[0], a[1]);
            case 37: return y.see(a[0], a[1], a[2]);
            case 38: return y.weighs(a[0]);
            case 39: return y.spare(a[0]);
            case 40: return y.lonely();
            case 41: return y.highest();
            case 42: return y.image();
            case 43: return y.back();
            case 44: return y.feed(a[0], a[1], a[2], a[3], 0);
            default: return y.count(a[0]);
        }
    }
}
