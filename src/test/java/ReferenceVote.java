import java.util.ArrayDeque;
import java.util.ArrayList;
import java.util.Deque;
import java.util.List;
import java.util.NoSuchElementException;
import java.util.regex.Matcher;
import java.util.regex.Pattern;

/**
 * The document once more, in other words and without any thought of room or speed: texts are judged by regular
 * expressions and by what they can be ended with, laws are worked out from their text, flights are lists.
 */
final class ReferenceVote {
    static final class Kite implements Cloneable {
        int place;
        int weight = 3;
        int line = 40;
        int paid;
        int height;
        int opinion;
        int wax;
        int clan;
        int mode;
        int worn;
        int knots;
        boolean flies = true;
        boolean waxed;

        Kite copy() {
            try {
                return (Kite) clone();
            } catch (CloneNotSupportedException e) {
                throw new IllegalStateException(e);
            }
        }

        int[] row() {
            return new int[] {place, weight, line, paid, height, opinion, wax, clan, mode, worn, knots, flies ? 1 : 0};
        }
    }

    static final class Sky {
        List<Kite> kites = new ArrayList<>();
        List<Integer> book = new ArrayList<>();
        int minute;
        int carried;

        Sky copy() {
            Sky s = new Sky();
            for (Kite k : kites) {
                s.kites.add(k.copy());
            }
            s.book.addAll(book);
            s.minute = minute;
            s.carried = carried;
            return s;
        }
    }

    private static final int NONE = -1;
    private static final int HIDDEN = -1000000;

    private String tape = "";
    private int width;
    private int bell;
    private int majority;
    private int pays;
    private List<int[]> airs = new ArrayList<>();
    private Sky now = null;
    private final List<String> laws = new ArrayList<>();
    private int liftLaw = NONE;
    private int wearLaw = NONE;
    private int gust;
    private final Deque<Sky> acts = new ArrayDeque<>();
    private Sky image;
    private final List<int[]> seen = new ArrayList<>();

    // ---- texts

    int feed(int... words) {
        StringBuilder s = new StringBuilder(tape);
        for (int w : words) {
            for (byte b : java.nio.ByteBuffer.allocate(4).putInt(w).array()) {
                if (b != 0) {
                    s.append((char) (b & 255));
                }
            }
        }
        if (s.length() > 240) {
            return NONE;
        }
        tape = s.toString();
        return tape.length();
    }

    boolean end(int n) {
        if (n < 0 || n > tape.length()) {
            return false;
        }
        tape = tape.substring(0, n);
        return true;
    }

    int fault(int sort) {
        if (sort == 0) {
            return fieldFault(tape);
        }
        return sort == 1 ? lawFault(tape) : -2;
    }

    static int fieldFault(String t) {
        int fs = 0;
        int ks = 0;
        int as = 0;
        int at = 0;
        boolean atClause = true;
        char clause = ' ';
        String told = "";
        while (true) {
            while (at < t.length() && t.charAt(at) == ' ') {
                at++;
            }
            if (at == t.length()) {
                return atClause || !stands(t) ? at : NONE;
            }
            char c = t.charAt(at);
            if (atClause) {
                if (c == 'f' && fs++ > 0 || c == 'k' && ks++ > 7 || c == 'a' && as++ > 5 || "fka".indexOf(c) < 0) {
                    return at;
                }
                clause = c;
                told = "";
                atClause = false;
                at++;
                continue;
            }
            if (c == ';') {
                atClause = true;
                at++;
                continue;
            }
            String letters = clause == 'f' ? "wbmr" : clause == 'k' ? "pwlhoxgm" : "fns";
            if (letters.indexOf(c) < 0 || told.indexOf(c) >= 0) {
                return at;
            }
            told += c;
            Matcher m = Pattern.compile("( *)([0-9]*)").matcher(t);
            m.region(at + 1, t.length());
            m.lookingAt();
            String digits = m.group(2);
            if (digits.isEmpty()) {
                return m.end();
            }
            if (digits.length() > 2) {
                return m.start(2) + 2;
            }
            int v = Integer.parseInt(digits);
            int[] b = bounds(clause, c);
            if (v < b[0] || v > b[1]) {
                return m.end() - 1;
            }
            at = m.end();
        }
    }

    private static int[] bounds(char clause, char item) {
        switch ("" + clause + item) {
            case "fw": return new int[] {1, 20};
            case "fb": return new int[] {1, 60};
            case "fm": return new int[] {0, 99};
            case "fr": return new int[] {1, 9};
            case "kp": return new int[] {0, 19};
            case "kw": return new int[] {1, 9};
            case "kl": return new int[] {0, 99};
            case "kh": return new int[] {0, 99};
            case "ko": return new int[] {0, 2};
            case "kx": return new int[] {0, 9};
            case "kg": return new int[] {0, 4};
            case "km": return new int[] {0, 2};
            case "af": return new int[] {0, 99};
            case "an": return new int[] {0, 60};
            default: return new int[] {0, 9};
        }
    }

    private static int item(String clause, char c, int without) {
        int i = clause.indexOf(c, 1);
        if (i < 0) {
            return without;
        }
        Matcher m = Pattern.compile("[0-9]+").matcher(clause);
        m.find(i);
        return Integer.parseInt(m.group());
    }

    private static boolean stands(String text) {
        int width = 20;
        List<Integer> places = new ArrayList<>();
        for (String c : text.replace(" ", "").split(";")) {
            if (c.charAt(0) == 'f') {
                width = item(c, 'w', 20);
            }
            if (c.charAt(0) == 'k') {
                int p = item(c, 'p', places.size());
                if (places.contains(p) || item(c, 'h', 0) > item(c, 'l', 40)) {
                    return false;
                }
                places.add(p);
            }
        }
        for (int p : places) {
            if (p >= width) {
                return false;
            }
        }
        return !places.isEmpty();
    }

    static boolean isLaw(String text) {
        Matcher numbers = Pattern.compile("[0-9]+").matcher(text);
        while (numbers.find()) {
            if (numbers.group().length() > 4) {
                return false;
            }
        }
        String t = text.replaceAll("[0-9]+|[swhpabdt]", "N").replace(" ", "");
        if (!t.matches("[N\\[\\]()!&|?;:y=<>+*/-]*") || depth(t) > 6) {
            return false;
        }
        String s = fix(t, "\\[N([-+*/]N)*\\]", "N");
        s = s.replaceAll("N([-+*/]N)+", "N").replaceAll("N[=<>]N", "U");
        s = fix(s, "!U|\\(U([&|]U)*\\)", "U");
        return s.matches("y:(U([&|]U)*\\?)?N(;y:(U([&|]U)*\\?)?N)*");
    }

    private static String fix(String s, String pattern, String by) {
        String t = s.replaceAll(pattern, by);
        while (!t.equals(s)) {
            s = t;
            t = s.replaceAll(pattern, by);
        }
        return s;
    }

    private static int depth(String t) {
        int most = 0;
        StringBuilder open = new StringBuilder();
        for (char c : t.toCharArray()) {
            if (c == '!' || c == '(' || c == '[') {
                open.append(c);
            } else if ("&|?;)".indexOf(c) >= 0) {
                while (open.length() > 0 && open.charAt(open.length() - 1) == '!') {
                    open.setLength(open.length() - 1);
                }
            }
            if ((c == ')' || c == ']') && open.length() > 0) {
                open.setLength(open.length() - 1);
            }
            most = Math.max(most, open.length());
        }
        return most;
    }

    /** Whether the text, cut off in any place, can be ended as a law. */
    static boolean canGoOn(String text) {
        for (String start : new String[] {"", "1", ":1", "y:1"}) {
            StringBuilder square = new StringBuilder();
            for (int i = 0; i <= 6; i++) {
                for (String unit : new String[] {"", "=1"}) {
                    StringBuilder round = new StringBuilder();
                    for (int j = 0; j <= 6; j++) {
                        if (isLaw(text + start + square + unit + round)
                            || isLaw(text + start + square + unit + round + "?1")) {
                            return true;
                        }
                        round.append(')');
                    }
                }
                square.append(']');
            }
        }
        return false;
    }

    static int lawFault(String t) {
        if (isLaw(t)) {
            return NONE;
        }
        // what can go on is known to go on from each of its beginnings, too
        int good = 0;
        int bad = t.length() + 1;
        while (bad - good > 1) {
            int half = (good + bad) / 2;
            if (canGoOn(t.substring(0, half))) {
                good = half;
            } else {
                bad = half;
            }
        }
        return good;
    }

    int text(int sort) {
        if (fault(sort) != NONE || (sort == 1 && laws.size() == 6)) {
            return NONE;
        }
        String t = tape.replace(" ", "");
        tape = "";
        if (sort == 1) {
            laws.add(t);
            return laws.size() - 1;
        }
        width = 20;
        bell = 20;
        majority = 50;
        pays = 5;
        airs = new ArrayList<>();
        now = new Sky();
        for (String c : t.split(";")) {
            if (c.charAt(0) == 'f') {
                width = item(c, 'w', 20);
                bell = item(c, 'b', 20);
                majority = item(c, 'm', 50);
                pays = item(c, 'r', 5);
            } else if (c.charAt(0) == 'a') {
                airs.add(new int[] {item(c, 'f', 0), item(c, 'n', 0), item(c, 's', 4)});
            } else {
                Kite k = new Kite();
                k.place = item(c, 'p', now.kites.size());
                k.weight = item(c, 'w', 3);
                k.line = item(c, 'l', 40);
                k.height = item(c, 'h', 0);
                k.paid = k.height;
                k.opinion = item(c, 'o', 0);
                k.wax = item(c, 'x', 0);
                k.clan = item(c, 'g', 0);
                k.mode = item(c, 'm', 0);
                now.kites.add(k);
            }
        }
        acts.clear();
        image = null;
        seen.clear();
        return now.kites.size();
    }

    // ---- the worth of a law, from its text

    private static int worth(String law, int[] letters) {
        for (String clause : law.split(";")) {
            String rest = clause.substring(2);
            int ask = rest.indexOf('?');
            if (ask < 0 || truth(rest.substring(0, ask), letters)) {
                return sum(rest.substring(ask + 1), letters);
            }
        }
        return 0;
    }

    /** The last of these signs that no bracket holds, or -1. */
    private static int lastOutside(String t, String signs) {
        int open = 0;
        for (int i = t.length() - 1; i >= 0; i--) {
            char c = t.charAt(i);
            open += c == ')' || c == ']' ? 1 : c == '(' || c == '[' ? -1 : 0;
            if (open == 0 && signs.indexOf(c) >= 0) {
                return i;
            }
        }
        return -1;
    }

    private static boolean truth(String t, int[] letters) {
        int i = lastOutside(t, "|");
        if (i >= 0) {
            return truth(t.substring(0, i), letters) | truth(t.substring(i + 1), letters);
        }
        i = lastOutside(t, "&");
        if (i >= 0) {
            return truth(t.substring(0, i), letters) & truth(t.substring(i + 1), letters);
        }
        if (t.charAt(0) == '!') {
            return !truth(t.substring(1), letters);
        }
        i = lastOutside(t, "=<>");
        if (i < 0) {
            return truth(t.substring(1, t.length() - 1), letters);
        }
        int a = sum(t.substring(0, i), letters);
        int b = sum(t.substring(i + 1), letters);
        return t.charAt(i) == '=' ? a == b : t.charAt(i) == '<' ? a < b : a > b;
    }

    private static int sum(String t, int[] letters) {
        int i = lastOutside(t, "+-");
        if (i < 0) {
            i = lastOutside(t, "*/");
        }
        if (i < 0) {
            if (t.charAt(0) == '[') {
                return sum(t.substring(1, t.length() - 1), letters);
            }
            int letter = "swhpabdt".indexOf(t.charAt(0));
            return letter >= 0 ? letters[letter] : Integer.parseInt(t);
        }
        long a = sum(t.substring(0, i), letters);
        long b = sum(t.substring(i + 1), letters);
        char c = t.charAt(i);
        long v = c == '+' ? a + b : c == '-' ? a - b : c == '*' ? a * b : b == 0 ? 0 : a / b;
        return (int) Math.max(-1000000, Math.min(1000000, v));
    }

    // ---- flights

    private int windAt(int height, int minute) {
        int strength = 0;
        for (int[] a : airs) {
            if (a[0] <= height && a[1] <= minute) {
                strength = a[2];
            }
        }
        return strength;
    }

    private int liftOf(Sky sky, Kite k) {
        int s = windAt(k.height, sky.minute);
        int v = s - k.weight;
        if (liftLaw >= 0) {
            v = worth(laws.get(liftLaw), new int[] {s, k.weight, k.height, k.paid, 0, 0, 0, sky.minute});
        }
        return Math.max(-9, Math.min(9, v));
    }

    private int wearOf(Sky sky, Kite k, Kite o) {
        int d = k.height - o.height;
        int v = d > -10 && d < 10 ? 1 + o.wax - k.wax : 0;
        if (wearLaw >= 0) {
            v = worth(laws.get(wearLaw), new int[] {0, k.weight, k.height, k.paid, k.wax, o.wax, d, sky.minute});
        }
        return Math.max(0, Math.min(9, v));
    }

    private long seed;

    private int draw(int k) {
        seed = seed * 6364136223846793005L + 1442695040888963407L;
        return (int) ((seed >>> 33) % k);
    }

    private void minute(Sky sky, boolean gusty) {
        for (Kite k : sky.kites) {
            if (k.flies && k.mode == 1) {
                k.paid = Math.min(k.paid + pays, k.line);
            }
            if (k.flies && k.mode == 2) {
                k.paid = Math.max(k.paid - pays, 0);
            }
        }
        for (Kite k : sky.kites) {
            if (k.flies) {
                k.height = Math.min(k.paid, Math.max(0, k.height + liftOf(sky, k)));
            }
        }
        for (Kite k : sky.kites) {
            if (gusty && k.flies && draw(100) < gust) {
                int way = draw(3);
                if (way == 0) {
                    k.height = Math.max(0, k.height - 5);
                } else if (way == 1) {
                    k.height = Math.min(k.paid, k.height + 5);
                } else {
                    k.worn++;
                }
            }
        }
        int[] more = new int[sky.kites.size()];
        for (int i = 0; i < more.length; i++) {
            for (Kite o : sky.kites) {
                Kite k = sky.kites.get(i);
                if (k.flies && o.flies && Math.abs(k.place - o.place) == 1 && k.height > 0 && o.height > 0) {
                    more[i] += wearOf(sky, k, o);
                }
            }
        }
        for (int i = 0; i < more.length; i++) {
            Kite k = sky.kites.get(i);
            k.worn += more[i];
            if (k.flies && k.worn >= Math.max(1, 10 - 3 * k.knots)) {
                k.flies = false;
                k.height = 0;
                k.paid = 0;
            }
        }
        sky.minute++;
    }

    private Sky after(Sky from, int n) {
        Sky s = from.copy();
        for (int i = 0; i < n; i++) {
            minute(s, false);
        }
        return s;
    }

    private Sky atBell(Sky from) {
        return after(from, bell - from.minute);
    }

    private static int feetOf(Sky s, int opinion) {
        int sum = 0;
        for (Kite k : s.kites) {
            sum += k.flies && k.opinion == opinion ? 3 * k.height : 0;
        }
        return sum;
    }

    private int resultOf(Sky s) {
        int yea = feetOf(s, 1);
        int both = yea + feetOf(s, 0);
        return both == 0 ? 2 : yea * 100 > majority * both ? 1 : 0;
    }

    // ---- the face

    private boolean field() {
        return now != null;
    }

    private boolean is(int kite) {
        return field() && kite >= 0 && kite < now.kites.size();
    }

    private boolean up(int kite) {
        return is(kite) && now.kites.get(kite).flies;
    }

    private boolean two(int one, int other) {
        return one != other && up(one) && up(other);
    }

    private Kite at(int kite) {
        return now.kites.get(kite);
    }

    private int left() {
        return bell - now.minute;
    }

    private boolean free(int place) {
        for (Kite k : now.kites) {
            if (k.flies && k.place == place) {
                return false;
            }
        }
        return place >= 0 && place < width;
    }

    private void act() {
        acts.push(now.copy());
        if (acts.size() > 40) {
            acts.removeLast();
        }
    }

    int kite(int kite, int what) {
        if (!is(kite) || what < 0 || what > 11) {
            throw new NoSuchElementException();
        }
        return at(kite).row()[what];
    }

    int law(int what) {
        return !field() || what < 0 || what > 3 ? NONE : new int[] {width, bell, majority, pays}[what];
    }

    boolean holds(int what, int law) {
        if (law < -1 || law >= laws.size() || what < 0 || what > 1) {
            return false;
        }
        if (what == 0) {
            liftLaw = law;
        } else {
            wearLaw = law;
        }
        return true;
    }

    int wind(int height, int minute) {
        boolean in = height >= 0 && height <= 99 && minute >= 0 && minute <= 60;
        return field() && in ? windAt(height, minute) : NONE;
    }

    int lift(int kite) {
        return up(kite) ? liftOf(now, at(kite)) : HIDDEN;
    }

    int wear(int one, int other) {
        return two(one, other) ? wearOf(now, at(one), at(other)) : NONE;
    }

    int feet(int opinion) {
        return field() && opinion >= 0 && opinion <= 2 ? feetOf(now, opinion) : NONE;
    }

    int result() {
        return field() ? resultOf(now) : NONE;
    }

    boolean mode(int kite, int mode) {
        if (!up(kite) || mode < 0 || mode > 2 || at(kite).mode == mode) {
            return false;
        }
        act();
        at(kite).mode = mode;
        return true;
    }

    int wax(int kite) {
        if (!up(kite) || at(kite).waxed || at(kite).wax == 9) {
            return NONE;
        }
        act();
        at(kite).waxed = true;
        return ++at(kite).wax;
    }

    int move(int kite, int by) {
        if (!up(kite) || Math.abs((long) by) != 1 || !free(at(kite).place + by)) {
            return NONE;
        }
        act();
        return at(kite).place += by;
    }

    int splice(int one, int other, int n) {
        if (!two(one, other) || n < 1 || at(one).clan != at(other).clan || n > at(one).line - at(one).paid
            || n + at(other).line > 99) {
            return NONE;
        }
        act();
        at(one).line -= n;
        at(other).knots++;
        return at(other).line += n;
    }

    boolean talk(int kite, int opinion) {
        if (!up(kite) || opinion < 0 || opinion > 2 || at(kite).opinion == opinion) {
            return false;
        }
        act();
        at(kite).opinion = opinion;
        return true;
    }

    int go(int n) {
        if (!field() || n < 1 || n > left()) {
            return NONE;
        }
        for (int i = 0; i < n; i++) {
            act();
            minute(now, false);
        }
        return now.minute;
    }

    boolean gust(int v) {
        if (v < 0 || v > 99 || v == gust) {
            return false;
        }
        gust = v;
        return true;
    }

    int gusts(int n, long from) {
        if (!field() || n < 1 || n > left()) {
            return NONE;
        }
        seed = from;
        for (int i = 0; i < n; i++) {
            act();
            minute(now, true);
        }
        return now.minute;
    }

    int sit() {
        if (!field() || left() != 0 || now.book.size() == 40) {
            return NONE;
        }
        act();
        int r = resultOf(now);
        now.book.add(r);
        now.carried = r == 2 ? now.carried : r;
        now.minute = 0;
        for (Kite k : now.kites) {
            k.waxed = false;
        }
        return r;
    }

    int book(int i) {
        return field() && i >= 0 && i < now.book.size() ? now.book.get(i) : NONE;
    }

    int undo() {
        if (acts.isEmpty()) {
            return NONE;
        }
        now = acts.pop();
        return acts.size();
    }

    int ahead(int kite, int n, int what) {
        if (!is(kite) || n < 0 || n > left() || what < 0 || what > 3) {
            return NONE;
        }
        Kite k = after(now, n).kites.get(kite);
        return new int[] {k.height, k.paid, k.worn, k.flies ? 1 : 0}[what];
    }

    int bell(int what) {
        if (!field() || what < 0 || what > 2) {
            return NONE;
        }
        Sky s = atBell(now);
        return what == 0 ? resultOf(s) : feetOf(s, what - 1);
    }

    int cut(int what) {
        if (!field() || what < 0 || what > 1) {
            return NONE;
        }
        for (int n = 1; n <= left(); n++) {
            Sky s = after(now, n);
            for (int i = 0; i < s.kites.size(); i++) {
                if (at(i).flies && !s.kites.get(i).flies) {
                    return what == 0 ? i : s.minute;
                }
            }
        }
        return NONE;
    }

    int calm() {
        for (int n = 0; field() && n <= left(); n++) {
            if (after(now, n).kites.stream().allMatch(k -> k.height == 0)) {
                return n;
            }
        }
        return NONE;
    }

    /** At the bell, if these (kite, start, kite, start ..) begin to pay out then. */
    private Sky starting(int... starts) {
        Sky s = now.copy();
        for (int m = 0; m < left(); m++) {
            for (int i = 0; i < starts.length; i += 2) {
                s.kites.get(starts[i]).mode = m < starts[i + 1] ? 0 : 1;
            }
            minute(s, false);
        }
        return s;
    }

    int timing(int kite, int what) {
        if (!up(kite) || what < 0 || what > 1) {
            return NONE;
        }
        int[] best = {0, -1};
        for (int m = 0; m <= left(); m++) {
            int h = starting(kite, m).kites.get(kite).height;
            if (h > best[1]) {
                best = new int[] {m, h};
            }
        }
        return best[what];
    }

    private Sky standing(int kite, int place) {
        Sky s = now.copy();
        s.kites.get(kite).place = place;
        return atBell(s);
    }

    int stand(int kite, int what) {
        if (!up(kite) || what < 0 || what > 1) {
            return NONE;
        }
        int[] best = {0, -1};
        for (int p = 0; p < 20; p++) {
            if (p == at(kite).place || free(p)) {
                int h = standing(kite, p).kites.get(kite).height;
                if (h > best[1]) {
                    best = new int[] {p, h};
                }
            }
        }
        return best[what];
    }

    int cross(int one, int other) {
        if (!two(one, other)) {
            return NONE;
        }
        int aim = at(other).place;
        int p = Math.abs(at(one).place - aim) == 1 ? at(one).place : free(aim - 1) ? aim - 1 : aim + 1;
        if (p != at(one).place && !free(p)) {
            return NONE;
        }
        Sky s = standing(one, p);
        return (s.kites.get(one).flies ? 0 : 1) + (s.kites.get(other).flies ? 0 : 2);
    }

    int prey(int kite) {
        int bits = 0;
        for (int o = 0; o < 8; o++) {
            bits += cross(kite, o) == 2 ? 1 << o : 0;
        }
        return up(kite) ? bits : NONE;
    }

    int power(int kite) {
        if (!up(kite)) {
            return NONE;
        }
        List<Integer> sums = new ArrayList<>(List.of(0));
        int all = 0;
        for (int i = 0; i < now.kites.size(); i++) {
            int h = at(i).height;
            all += h;
            if (i != kite && up(i)) {
                List<Integer> with = new ArrayList<>();
                sums.forEach(s -> with.add(s + h));
                sums.addAll(with);
            }
        }
        int whole = all;
        int own = at(kite).height;
        return (int) sums.stream().filter(s -> s * 100 <= majority * whole && (s + own) * 100 > majority * whole).count();
    }

    int talked() {
        if (!field()) {
            return NONE;
        }
        for (int size = 0; size <= 8; size++) {
            for (int set = 0; set < 256; set++) {
                Sky s = now.copy();
                boolean fits = Integer.bitCount(set) == size;
                for (int i = 0; i < 8; i++) {
                    if ((set >> i & 1) == 1) {
                        fits = fits && up(i);
                        if (is(i)) {
                            s.kites.get(i).opinion = 1;
                        }
                    }
                }
                if (fits && resultOf(atBell(s)) == 1) {
                    return set;
                }
            }
        }
        return NONE;
    }

    int content(int with) {
        if (!field() || with < 1 || with > 60) {
            return NONE;
        }
        Sky s = now.copy();
        s.minute = 0;
        int r = resultOf(after(s, with));
        return (int) now.kites.stream().filter(k -> k.flies && k.opinion < 2 && k.opinion == r).count();
    }

    int ringer(int what) {
        if (!field() || what < 0 || what > 1) {
            return NONE;
        }
        int[] best = {0, -1};
        for (int b = 1; b <= 60; b++) {
            if (content(b) > best[1]) {
                best = new int[] {b, content(b)};
            }
        }
        return best[what];
    }

    int duel(int one, int other, int a, int b) {
        if (!two(one, other) || a < 0 || a > 5 || b < 0 || b > 5) {
            return HIDDEN;
        }
        Sky s = starting(one, a, other, b);
        return s.kites.get(one).height - s.kites.get(other).height;
    }

    int rests(int one, int other, int i) {
        if (!two(one, other)) {
            return NONE;
        }
        int[][] has = new int[6][6];
        for (int a = 0; a < 6; a++) {
            for (int b = 0; b < 6; b++) {
                has[a][b] = duel(one, other, a, b);
            }
        }
        List<Integer> rests = new ArrayList<>();
        for (int a = 0; a < 6; a++) {
            for (int b = 0; b < 6; b++) {
                boolean rest = true;
                for (int c = 0; c < 6; c++) {
                    rest = rest && has[c][b] <= has[a][b] && -has[a][c] <= -has[a][b];
                }
                if (rest) {
                    rests.add(10 * a + b);
                }
            }
        }
        return i == NONE ? rests.size() : i >= 0 && i < rests.size() ? rests.get(i) : NONE;
    }

    int clan(int clan, int without) {
        if (!field() || clan < 0 || clan > 4 || without != NONE && (!up(without) || at(without).clan != clan)) {
            return NONE;
        }
        Sky s = now.copy();
        if (without != NONE) {
            s.kites.get(without).flies = false;
        }
        return atBell(s).kites.stream().filter(k -> k.flies && k.clan == clan).mapToInt(k -> 3 * k.height).sum();
    }

    int see(int kite, int j, int height) {
        if (!is(kite) || j < 1 || j > 9 || height < 0 || height > 99 || seen.size() == 8) {
            return NONE;
        }
        seen.add(new int[] {kite, j, height});
        return seen.size();
    }

    int weighs(int kite) {
        if (!up(kite)) {
            return NONE;
        }
        int bits = 0;
        for (int w = 1; w <= 9; w++) {
            boolean so = true;
            for (int[] s : seen) {
                if (s[0] == kite) {
                    Sky sky = now.copy();
                    sky.kites.get(kite).weight = w;
                    so = so && s[1] <= left() && after(sky, s[1]).kites.get(kite).height == s[2];
                }
            }
            bits += so ? 1 << w : 0;
        }
        return bits;
    }

    int spare(int clan) {
        if (!field() || clan < 0 || clan > 4) {
            return NONE;
        }
        return now.kites.stream().filter(k -> k.flies && k.clan == clan).mapToInt(k -> k.line - k.paid).sum();
    }

    int lonely() {
        int bits = 0;
        for (int i = 0; field() && i < now.kites.size(); i++) {
            int p = at(i).place;
            if (up(i) && now.kites.stream().noneMatch(k -> k.flies && Math.abs(k.place - p) == 1)) {
                bits |= 1 << i;
            }
        }
        return field() ? bits : NONE;
    }

    int highest() {
        for (int h = 99; field() && h >= 0; h--) {
            for (int i = 0; i < now.kites.size(); i++) {
                if (up(i) && at(i).height == h) {
                    return i;
                }
            }
        }
        return NONE;
    }

    int image() {
        if (!field()) {
            return NONE;
        }
        image = now.copy();
        return now.minute;
    }

    int back() {
        if (image == null) {
            return NONE;
        }
        now = image.copy();
        acts.clear();
        return now.minute;
    }

    int count(int what) {
        int flying = field() ? (int) now.kites.stream().filter(k -> k.flies).count() : 0;
        int[] all = {field() ? now.kites.size() : 0, flying, airs.size(), laws.size(), tape.length(), liftLaw, wearLaw,
            field() ? now.minute : 0, gust, field() ? now.carried : 0, field() ? now.book.size() : 0, seen.size(),
            acts.size()};
        return what >= 0 && what < all.length ? all[what] : HIDDEN;
    }
}
