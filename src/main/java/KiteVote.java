import java.util.NoSuchElementException;

public final class KiteVote {
    public static final int NONE = -1;
    public static final int HIDDEN = -1000000;

    private static final int MOST_KITES = 8;
    private static final int MOST_AIRS = 6;
    private static final int MOST_LAWS = 6;
    private static final int MOST_SEEN = 8;
    private static final int MOST_BELL = 60;
    private static final int MOST_HEIGHT = 99;
    private static final int TAPE_BYTES = 240;
    private static final int ACTS_KEPT = 40;
    private static final int BOOK_ROOM = 40;
    private static final int STARTS = 6;

    // The first twelve are the document's numbers of promise 6.
    private static final int PLACE = 0;
    private static final int WEIGHT = 1;
    private static final int LINE = 2;
    private static final int PAID = 3;
    private static final int HEIGHT = 4;
    private static final int OPINION = 5;
    private static final int WAX = 6;
    private static final int CLAN = 7;
    private static final int MODE = 8;
    private static final int WORN = 9;
    private static final int KNOTS = 10;
    private static final int FLIES = 11;
    private static final int WAXED = 12;
    private static final int CELLS = 13;
    private static final int SHOWN_CELLS = 12;

    private static final int NAY = 0;
    private static final int YEA = 1;
    private static final int ABSTAINS = 2;
    private static final int CARRIED = 1;
    private static final int CALM = 2;
    private static final int HOLDING = 0;
    private static final int PAYING = 1;
    private static final int HAULING = 2;

    private final Tape tape;
    private final FieldReader fieldReader;
    private final LawReader lawReader;
    private final Field field;
    private final Laws laws;
    private final Flight flight;
    private final State now;
    private final State trial;
    private final State imaged;
    private boolean hasImage;
    private final Acts acts;
    private final Seen seen;
    private final int[] gains;
    private int gustChance;

    public KiteVote() {
        Tape bytes = new Tape();
        Field told = new Field();
        Laws ways = new Laws();
        tape = bytes;
        field = told;
        laws = ways;
        fieldReader = new FieldReader(bytes);
        lawReader = new LawReader(bytes);
        flight = new Flight(told, ways);
        now = new State();
        trial = new State();
        imaged = new State();
        acts = new Acts();
        seen = new Seen();
        gains = new int[STARTS * STARTS];
    }

    // ---- the TAPE, texts, laws

    public int feed(int a, int b, int c, int d, int e) {
        int more = Tape.bytesIn(a) + Tape.bytesIn(b) + Tape.bytesIn(c) + Tape.bytesIn(d) + Tape.bytesIn(e);
        if (tape.length + more > TAPE_BYTES) {
            return NONE;
        }
        tape.add(a);
        tape.add(b);
        tape.add(c);
        tape.add(d);
        tape.add(e);
        return tape.length;
    }

    public boolean end(int n) {
        if (n < 0 || n > tape.length) {
            return false;
        }
        tape.length = n;
        return true;
    }

    public int fault(int sort) {
        if (sort != 0 && sort != 1) {
            return -2;
        }
        boolean right = sort == 0 ? fieldReader.read() : lawReader.read();
        return right ? NONE : tape.at;
    }

    public int text(int sort) {
        if (sort == 0 && fieldReader.read()) {
            tape.length = 0;
            return beginField();
        }
        if (sort == 1 && laws.count < MOST_LAWS && lawReader.read()) {
            tape.length = 0;
            return laws.keep(lawReader.law);
        }
        return NONE;
    }

    private int beginField() {
        field.copyFrom(fieldReader.field);
        now.copyFrom(fieldReader.state);
        hasImage = false;
        acts.forget();
        seen.count = 0;
        return field.kites;
    }

    public int kite(int kite, int what) throws NoSuchElementException {
        if (!isKite(kite) || what < 0 || what >= SHOWN_CELLS) {
            throw new NoSuchElementException();
        }
        return now.get(kite, what);
    }

    public int law(int what) {
        if (!hasField()) {
            return NONE;
        }
        switch (what) {
            case 0:
                return field.width;
            case 1:
                return field.bell;
            case 2:
                return field.majority;
            case 3:
                return field.pays;
            default:
                return NONE;
        }
    }

    public boolean holds(int what, int law) {
        if (law < NONE || law >= laws.count) {
            return false;
        }
        if (what == 0) {
            laws.lifting = law;
        } else if (what == 1) {
            laws.wearing = law;
        }
        return what == 0 || what == 1;
    }

    // ---- what is so now

    public int wind(int height, int minute) {
        if (!hasField() || isOut(height, MOST_HEIGHT) || isOut(minute, MOST_BELL)) {
            return NONE;
        }
        return field.windAt(height, minute);
    }

    public int lift(int kite) {
        return isFlying(kite) ? flight.liftOf(now, kite) : HIDDEN;
    }

    public int wear(int one, int other) {
        return areTwo(one, other) ? flight.wearOf(now, one, other) : NONE;
    }

    public int feet(int opinion) {
        return hasField() && !isOut(opinion, ABSTAINS) ? now.feetFor(opinion) : NONE;
    }

    public int result() {
        return hasField() ? flight.resultOf(now) : NONE;
    }

    // ---- acts by hand

    public boolean mode(int kite, int mode) {
        return change(kite, MODE, mode, HAULING);
    }

    public int wax(int kite) {
        if (!isFlying(kite) || now.get(kite, WAXED) != 0 || now.get(kite, WAX) >= 9) {
            return NONE;
        }
        acts.keep(now);
        now.set(kite, WAXED, 1);
        now.set(kite, WAX, now.get(kite, WAX) + 1);
        return now.get(kite, WAX);
    }

    public int move(int kite, int by) {
        if (!isFlying(kite) || (by != -1 && by != 1)) {
            return NONE;
        }
        int place = now.get(kite, PLACE) + by;
        if (!isFree(place)) {
            return NONE;
        }
        acts.keep(now);
        now.set(kite, PLACE, place);
        return place;
    }

    public int splice(int one, int other, int n) {
        if (!areTwo(one, other) || now.get(one, CLAN) != now.get(other, CLAN)) {
            return NONE;
        }
        int most = Math.min(now.unpaid(one), MOST_HEIGHT - now.get(other, LINE));
        if (n < 1 || n > most) {
            return NONE;
        }
        acts.keep(now);
        now.set(one, LINE, now.get(one, LINE) - n);
        now.set(other, LINE, now.get(other, LINE) + n);
        now.set(other, KNOTS, now.get(other, KNOTS) + 1);
        return now.get(other, LINE);
    }

    public boolean talk(int kite, int opinion) {
        return change(kite, OPINION, opinion, ABSTAINS);
    }

    private boolean change(int kite, int what, int value, int most) {
        if (!isFlying(kite) || isOut(value, most) || now.get(kite, what) == value) {
            return false;
        }
        acts.keep(now);
        now.set(kite, what, value);
        return true;
    }

    public int go(int n) {
        if (!areAhead(n)) {
            return NONE;
        }
        for (int i = 0; i < n; i++) {
            acts.keep(now);
            flight.pass(now);
        }
        return now.minute;
    }

    public boolean gust(int v) {
        if (isOut(v, 99) || v == gustChance) {
            return false;
        }
        gustChance = v;
        return true;
    }

    public int gusts(int n, long seed) {
        if (!areAhead(n)) {
            return NONE;
        }
        Draws draws = new Draws(seed);
        for (int i = 0; i < n; i++) {
            acts.keep(now);
            flight.climb(now);
            flight.shake(now, draws, gustChance);
            flight.rub(now);
        }
        return now.minute;
    }

    public int sit() {
        if (!hasField() || left() > 0 || now.bookLength >= BOOK_ROOM) {
            return NONE;
        }
        acts.keep(now);
        int result = flight.resultOf(now);
        now.putBy(result);
        return result;
    }

    public int book(int i) {
        return now.booked(i);
    }

    public int undo() {
        return acts.takeBack(now) ? acts.count : NONE;
    }

    // ---- what is ahead

    public int ahead(int kite, int n, int what) {
        if (!isKite(kite) || n < 0 || n > left() || isOut(what, 3)) {
            return NONE;
        }
        trial.copyFrom(now);
        for (int i = 0; i < n; i++) {
            flight.pass(trial);
        }
        switch (what) {
            case 0:
                return trial.get(kite, HEIGHT);
            case 1:
                return trial.get(kite, PAID);
            case 2:
                return trial.get(kite, WORN);
            default:
                return trial.get(kite, FLIES);
        }
    }

    public int bell(int what) {
        if (!hasField() || isOut(what, 2)) {
            return NONE;
        }
        trial.copyFrom(now);
        flyTrial();
        return what == 0 ? flight.resultOf(trial) : trial.feetFor(what - 1);
    }

    public int cut(int what) {
        if (!hasField() || isOut(what, 1)) {
            return NONE;
        }
        int flew = now.flyers();
        trial.copyFrom(now);
        int minutes = left();
        for (int i = 0; i < minutes; i++) {
            flight.pass(trial);
            int cuts = flew & ~trial.flyers();
            if (cuts != 0) {
                return what == 0 ? lowestOf(cuts) : trial.minute;
            }
        }
        return NONE;
    }

    public int calm() {
        if (!hasField()) {
            return NONE;
        }
        trial.copyFrom(now);
        int minutes = left();
        for (int i = 0; i <= minutes; i++) {
            if (trial.isLow()) {
                return i;
            }
            if (i < minutes) {
                flight.pass(trial);
            }
        }
        return NONE;
    }

    public int timing(int kite, int what) {
        if (!isFlying(kite) || isOut(what, 1)) {
            return NONE;
        }
        int minutes = left();
        int best = 0;
        int highest = NONE;
        for (int start = 0; start <= minutes; start++) {
            flyStarting(kite, start, NONE, 0);
            int height = trial.get(kite, HEIGHT);
            if (height > highest) {
                highest = height;
                best = start;
            }
        }
        return what == 0 ? best : highest;
    }

    public int stand(int kite, int what) {
        if (!isFlying(kite) || isOut(what, 1)) {
            return NONE;
        }
        int best = 0;
        int highest = NONE;
        for (int place = 0; place < field.width; place++) {
            if (place != now.get(kite, PLACE) && !isFree(place)) {
                continue;
            }
            trial.copyFrom(now);
            trial.set(kite, PLACE, place);
            flyTrial();
            int height = trial.get(kite, HEIGHT);
            if (height > highest) {
                highest = height;
                best = place;
            }
        }
        return what == 0 ? best : highest;
    }

    public int cross(int one, int other) {
        return areTwo(one, other) ? crossing(one, other) : NONE;
    }

    private int crossing(int one, int other) {
        int place = placeToCross(one, other);
        if (place == NONE) {
            return NONE;
        }
        trial.copyFrom(now);
        trial.set(one, PLACE, place);
        flyTrial();
        return (trial.flies(one) ? 0 : 1) + (trial.flies(other) ? 0 : 2);
    }

    private int placeToCross(int one, int other) {
        int own = now.get(one, PLACE);
        int aim = now.get(other, PLACE);
        if (own == aim - 1 || own == aim + 1) {
            return own;
        }
        if (isFree(aim - 1)) {
            return aim - 1;
        }
        return isFree(aim + 1) ? aim + 1 : NONE;
    }

    public int prey(int kite) {
        if (!isFlying(kite)) {
            return NONE;
        }
        int bits = 0;
        for (int other = 0; other < field.kites; other++) {
            if (areTwo(kite, other) && crossing(kite, other) == 2) {
                bits |= 1 << other;
            }
        }
        return bits;
    }

    // ---- who decides

    public int power(int kite) {
        if (!isFlying(kite)) {
            return NONE;
        }
        int others = now.flyers() & ~(1 << kite);
        int all = now.heightOf(now.flyers());
        int own = now.get(kite, HEIGHT);
        int count = 0;
        for (int set = 0; set < 1 << MOST_KITES; set++) {
            if ((set & ~others) != 0) {
                continue;
            }
            int height = now.heightOf(set);
            if (!field.isMajority(height, all) && field.isMajority(height + own, all)) {
                count++;
            }
        }
        return count;
    }

    public int talked() {
        if (!hasField()) {
            return NONE;
        }
        trial.copyFrom(now);
        flyTrial();
        int flyers = now.flyers();
        int best = NONE;
        for (int set = 0; set < 1 << MOST_KITES; set++) {
            boolean fewer = best == NONE || Integer.bitCount(set) < Integer.bitCount(best);
            if ((set & ~flyers) == 0 && fewer && isCarriedWith(set)) {
                best = set;
            }
        }
        return best;
    }

    private boolean isCarriedWith(int set) {
        int yea = 0;
        int both = 0;
        for (int kite = 0; kite < field.kites; kite++) {
            int height = trial.flies(kite) ? trial.get(kite, HEIGHT) : 0;
            boolean forYea = (set >> kite & 1) != 0 || trial.get(kite, OPINION) == YEA;
            if (forYea) {
                yea += height;
            }
            if (forYea || trial.get(kite, OPINION) == NAY) {
                both += height;
            }
        }
        return field.isMajority(yea, both);
    }

    public int content(int bell) {
        if (!hasField() || bell < 1 || bell > MOST_BELL) {
            return NONE;
        }
        trial.copyFrom(now);
        trial.minute = 0;
        for (int i = 0; i < bell; i++) {
            flight.pass(trial);
        }
        return contentWith(flight.resultOf(trial));
    }

    private int contentWith(int result) {
        int count = 0;
        for (int kite = 0; kite < field.kites; kite++) {
            int opinion = now.get(kite, OPINION);
            if (now.flies(kite) && opinion != ABSTAINS && opinion == result) {
                count++;
            }
        }
        return count;
    }

    public int ringer(int what) {
        if (!hasField() || isOut(what, 1)) {
            return NONE;
        }
        trial.copyFrom(now);
        trial.minute = 0;
        int best = 0;
        int most = NONE;
        for (int bell = 1; bell <= MOST_BELL; bell++) {
            flight.pass(trial);
            int count = contentWith(flight.resultOf(trial));
            if (count > most) {
                most = count;
                best = bell;
            }
        }
        return what == 0 ? best : most;
    }

    // ---- games of two, clans

    public int duel(int one, int other, int a, int b) {
        if (!areTwo(one, other) || isOut(a, STARTS - 1) || isOut(b, STARTS - 1)) {
            return HIDDEN;
        }
        flyStarting(one, a, other, b);
        return trial.get(one, HEIGHT) - trial.get(other, HEIGHT);
    }

    public int rests(int one, int other, int i) {
        if (!areTwo(one, other) || i < NONE) {
            return NONE;
        }
        weighDuels(one, other);
        int count = 0;
        for (int a = 0; a < STARTS; a++) {
            for (int b = 0; b < STARTS; b++) {
                if (!isResting(a, b)) {
                    continue;
                }
                if (count == i) {
                    return 10 * a + b;
                }
                count++;
            }
        }
        return i == NONE ? count : NONE;
    }

    private void weighDuels(int one, int other) {
        for (int i = 0; i < gains.length; i++) {
            flyStarting(one, i / STARTS, other, i % STARTS);
            gains[i] = trial.get(one, HEIGHT) - trial.get(other, HEIGHT);
        }
    }

    private boolean isResting(int a, int b) {
        int gain = gainAt(a, b);
        for (int i = 0; i < STARTS; i++) {
            if (gainAt(i, b) > gain || gainAt(a, i) < gain) {
                return false;
            }
        }
        return true;
    }

    private int gainAt(int a, int b) {
        int i = a * STARTS + b;
        return i >= 0 && i < gains.length ? gains[i] : 0;
    }

    public int clan(int clan, int without) {
        if (!hasField() || isOut(clan, 4)) {
            return NONE;
        }
        if (without != NONE && (!isFlying(without) || now.get(without, CLAN) != clan)) {
            return NONE;
        }
        trial.copyFrom(now);
        if (without != NONE) {
            trial.ground(without);
        }
        flyTrial();
        return trial.feetOfClan(clan);
    }

    // ---- what was seen

    public int see(int kite, int j, int height) {
        if (!isKite(kite) || j < 1 || j > 9 || isOut(height, MOST_HEIGHT) || seen.count >= MOST_SEEN) {
            return NONE;
        }
        seen.add(kite, j, height);
        return seen.count;
    }

    public int weighs(int kite) {
        if (!isFlying(kite)) {
            return NONE;
        }
        int bits = 0;
        for (int weight = 1; weight <= 9; weight++) {
            if (isSeenSo(kite, weight)) {
                bits |= 1 << weight;
            }
        }
        return bits;
    }

    private boolean isSeenSo(int kite, int weight) {
        int last = seen.lastOf(kite);
        if (last > left()) {
            return false;
        }
        trial.copyFrom(now);
        trial.set(kite, WEIGHT, weight);
        for (int j = 1; j <= last; j++) {
            flight.pass(trial);
            if (!seen.allows(kite, j, trial.get(kite, HEIGHT))) {
                return false;
            }
        }
        return true;
    }

    public int spare(int clan) {
        if (!hasField() || isOut(clan, 4)) {
            return NONE;
        }
        int sum = 0;
        for (int kite = 0; kite < field.kites; kite++) {
            if (now.flies(kite) && now.get(kite, CLAN) == clan) {
                sum += now.unpaid(kite);
            }
        }
        return sum;
    }

    public int lonely() {
        if (!hasField()) {
            return NONE;
        }
        int bits = 0;
        for (int kite = 0; kite < field.kites; kite++) {
            int place = now.get(kite, PLACE);
            if (now.flies(kite) && !now.isHeld(place - 1) && !now.isHeld(place + 1)) {
                bits |= 1 << kite;
            }
        }
        return bits;
    }

    public int highest() {
        int best = NONE;
        for (int kite = 0; kite < field.kites; kite++) {
            if (now.flies(kite) && (best == NONE || now.get(kite, HEIGHT) > now.get(best, HEIGHT))) {
                best = kite;
            }
        }
        return best;
    }

    // ---- images, counts

    public int image() {
        if (!hasField()) {
            return NONE;
        }
        imaged.copyFrom(now);
        hasImage = true;
        return now.minute;
    }

    public int back() {
        if (!hasImage) {
            return NONE;
        }
        now.copyFrom(imaged);
        acts.forget();
        return now.minute;
    }

    public int count(int what) {
        switch (what) {
            case 0:
                return field.kites;
            case 1:
                return Integer.bitCount(now.flyers());
            case 2:
                return field.airs;
            case 3:
                return laws.count;
            case 4:
                return tape.length;
            case 5:
                return laws.lifting;
            case 6:
                return laws.wearing;
            case 7:
                return now.minute;
            case 8:
                return gustChance;
            case 9:
                return now.carried;
            case 10:
                return now.bookLength;
            case 11:
                return seen.count;
            case 12:
                return acts.count;
            default:
                return HIDDEN;
        }
    }

    // ---- helpers of the face

    private boolean hasField() {
        return field.kites > 0;
    }

    private boolean isKite(int kite) {
        return kite >= 0 && kite < field.kites;
    }

    private boolean isFlying(int kite) {
        return isKite(kite) && now.flies(kite);
    }

    private boolean areTwo(int one, int other) {
        return one != other && isFlying(one) && isFlying(other);
    }

    private boolean isFree(int place) {
        return place >= 0 && place < field.width && !now.isHeld(place);
    }

    private int left() {
        return field.bell - now.minute;
    }

    private boolean areAhead(int minutes) {
        return hasField() && minutes >= 1 && minutes <= left();
    }

    private void flyTrial() {
        int minutes = left();
        for (int i = 0; i < minutes; i++) {
            flight.pass(trial);
        }
    }

    private void flyStarting(int one, int a, int other, int b) {
        trial.copyFrom(now);
        int minutes = left();
        for (int i = 0; i < minutes; i++) {
            trial.set(one, MODE, i < a ? HOLDING : PAYING);
            if (other != NONE) {
                trial.set(other, MODE, i < b ? HOLDING : PAYING);
            }
            flight.pass(trial);
        }
    }

    private static int lowestOf(int bits) {
        for (int i = 0; i < MOST_KITES; i++) {
            if ((bits >> i & 1) != 0) {
                return i;
            }
        }
        return NONE;
    }

    private static boolean isOut(int value, int most) {
        return value < 0 || value > most;
    }

    private static int within(int value, int least, int most) {
        if (value < least) {
            return least;
        }
        return value > most ? most : value;
    }

    /** The bytes that were fed, and the place up to which a reader has come: a fault is where it stopped. */
    private static final class Tape {
        private static final int ENDED = -1;

        private final int[] bytes = new int[TAPE_BYTES];
        private int length;
        private int at;
        private int value;

        static int bytesIn(int word) {
            int count = 0;
            for (int shift = 24; shift >= 0; shift -= 8) {
                if ((word >>> shift & 255) != 0) {
                    count++;
                }
            }
            return count;
        }

        void add(int word) {
            for (int shift = 24; shift >= 0; shift -= 8) {
                int b = word >>> shift & 255;
                if (b != 0 && length >= 0 && length < bytes.length) {
                    bytes[length] = b;
                    length++;
                }
            }
        }

        /** The next byte that is no blank; the reader stands at it then. */
        int sign() {
            while (at >= 0 && at < length && at < bytes.length && bytes[at] == ' ') {
                at++;
            }
            return at >= 0 && at < length && at < bytes.length ? bytes[at] : ENDED;
        }

        /** The digit that the reader stands at, a blank not passed over: none stands within a number. */
        private int digit() {
            int b = at >= 0 && at < length && at < bytes.length ? bytes[at] : ENDED;
            return b >= '0' && b <= '9' ? b - '0' : NONE;
        }

        boolean take(char c) {
            if (sign() != c) {
                return false;
            }
            at++;
            return true;
        }

        /** A number of so many digits at most becomes the value; one digit more is the fault, whatever the others say. */
        boolean number(int digits) {
            sign();
            int digit = digit();
            if (digit == NONE) {
                return false;
            }
            value = 0;
            for (int i = 0; i < digits && digit != NONE; i++) {
                value = value * 10 + digit;
                at++;
                digit = digit();
            }
            return digit == NONE;
        }

        /** As number; out of bounds the reader goes back, as the fault is at the last digit. */
        boolean numberWithin(int digits, int least, int most) {
            if (!number(digits)) {
                return false;
            }
            if (value < least || value > most) {
                at--;
                return false;
            }
            return true;
        }
    }

    /** WIDTH, BELL, MAJORITY, what it PAYS, and the AIR; no KITES: no FIELD. */
    private static final class Field {
        private int width;
        private int bell;
        private int majority;
        private int pays;
        private int kites;
        private int airs;
        private final int[] from = new int[MOST_AIRS];
        private final int[] since = new int[MOST_AIRS];
        private final int[] strength = new int[MOST_AIRS];

        void clear() {
            width = 20;
            bell = 20;
            majority = 50;
            pays = 5;
            kites = 0;
            airs = 0;
        }

        void copyFrom(Field other) {
            width = other.width;
            bell = other.bell;
            majority = other.majority;
            pays = other.pays;
            kites = other.kites;
            airs = other.airs;
            for (int i = 0; i < MOST_AIRS; i++) {
                from[i] = other.from[i];
                since[i] = other.since[i];
                strength[i] = other.strength[i];
            }
        }

        void addAir(int height, int minute, int force) {
            if (airs >= 0 && airs < MOST_AIRS) {
                from[airs] = height;
                since[airs] = minute;
                strength[airs] = force;
                airs++;
            }
        }

        int windAt(int height, int minute) {
            for (int i = airs - 1; i >= 0 && i < MOST_AIRS; i--) {
                if (from[i] <= height && since[i] <= minute) {
                    return strength[i];
                }
            }
            return 0;
        }

        boolean isMajority(int part, int all) {
            return part * 100 > majority * all;
        }
    }

    /** Reads the TAPE as a FIELD into a field and a state of its own, so that a fault spoils nothing. */
    private static final class FieldReader {
        private static final String LAW_LETTERS = "wbmr";
        private static final int[] LAW_LEAST = {1, 1, 0, 1};
        private static final int[] LAW_MOST = {20, 60, 99, 9};
        private static final String KITE_LETTERS = "pwlhoxgm";
        private static final int[] KITE_LEAST = {0, 1, 0, 0, 0, 0, 0, 0};
        private static final int[] KITE_MOST = {19, 9, 99, 99, 2, 9, 4, 2};
        private static final String AIR_LETTERS = "fns";
        private static final int[] AIR_LEAST = {0, 0, 0};
        private static final int[] AIR_MOST = {99, 60, 9};

        private final Tape tape;
        private final Field field;
        private final State state;
        private final int[] items = new int[8];
        private boolean lawRead;

        FieldReader(Tape tape) {
            this.tape = tape;
            field = new Field();
            state = new State();
        }

        /** False: the tape's reader stands at the fault. */
        boolean read() {
            tape.at = 0;
            field.clear();
            state.clear();
            lawRead = false;
            boolean more = true;
            for (int i = 0; more && i < TAPE_BYTES; i++) {
                if (!readClause()) {
                    return false;
                }
                more = tape.take(';');
            }
            return tape.sign() == Tape.ENDED && canStand();
        }

        private boolean readClause() {
            int letter = tape.sign();
            if (letter == 'f' && !lawRead) {
                return readLaw();
            }
            if (letter == 'k' && field.kites < MOST_KITES) {
                return readKite();
            }
            return letter == 'a' && field.airs < MOST_AIRS && readAir();
        }

        private boolean readLaw() {
            lawRead = true;
            preset(20, 20, 50, 5);
            if (!readItems(LAW_LETTERS, LAW_LEAST, LAW_MOST)) {
                return false;
            }
            field.width = items[0];
            field.bell = items[1];
            field.majority = items[2];
            field.pays = items[3];
            return true;
        }

        private boolean readKite() {
            int kite = field.kites;
            preset(kite, 3, 40, 0);
            if (!readItems(KITE_LETTERS, KITE_LEAST, KITE_MOST)) {
                return false;
            }
            state.set(kite, PLACE, items[0]);
            state.set(kite, WEIGHT, items[1]);
            state.set(kite, LINE, items[2]);
            state.set(kite, HEIGHT, items[3]);
            state.set(kite, PAID, items[3]);
            state.set(kite, OPINION, items[4]);
            state.set(kite, WAX, items[5]);
            state.set(kite, CLAN, items[6]);
            state.set(kite, MODE, items[7]);
            state.set(kite, FLIES, 1);
            field.kites++;
            return true;
        }

        private boolean readAir() {
            preset(0, 0, 4, 0);
            if (!readItems(AIR_LETTERS, AIR_LEAST, AIR_MOST)) {
                return false;
            }
            field.addAir(items[0], items[1], items[2]);
            return true;
        }

        private void preset(int first, int second, int third, int fourth) {
            items[0] = first;
            items[1] = second;
            items[2] = third;
            items[3] = fourth;
            for (int i = 4; i < items.length; i++) {
                items[i] = 0;
            }
        }

        /** Behind the letter of a clause: what is left out stays as preset. */
        private boolean readItems(String letters, int[] least, int[] most) {
            tape.at++;
            int told = 0;
            for (int n = 0; n <= letters.length(); n++) {
                int sign = tape.sign();
                if (sign == Tape.ENDED || sign == ';') {
                    return true;
                }
                int i = letters.indexOf((char) sign);
                if (i < 0 || i >= least.length || i >= most.length || i >= items.length || (told >> i & 1) != 0) {
                    return false;
                }
                tape.at++;
                if (!tape.numberWithin(2, least[i], most[i])) {
                    return false;
                }
                items[i] = tape.value;
                told |= 1 << i;
            }
            return false;
        }

        /** What no single byte is wrong for: it is looked at behind the whole text. */
        private boolean canStand() {
            int held = 0;
            for (int kite = 0; kite < field.kites; kite++) {
                int place = state.get(kite, PLACE);
                if (place >= field.width || (held >> place & 1) != 0) {
                    return false;
                }
                if (state.get(kite, HEIGHT) > state.get(kite, LINE)) {
                    return false;
                }
                held |= 1 << place;
            }
            return field.kites > 0;
        }
    }

    /** A LAW as steps on a pile of numbers, so that it is read once and not at each use. */
    private static final class Law {
        static final String LETTERS = "swhpabdt";
        static final int NUMBER = 0;
        static final int LETTER = 1;
        static final int PLUS = 2;
        static final int MINUS = 3;
        static final int TIMES = 4;
        static final int OVER = 5;
        static final int EQUAL = 6;
        static final int BELOW = 7;
        static final int ABOVE = 8;
        static final int AND = 9;
        static final int OR = 10;
        static final int NOT = 11;
        static final int UNLESS = 12;
        static final int ANSWER = 13;

        private static final int KIND_SHIFT = 16;
        private static final int ARGUMENT_MASK = 65535;
        private static final int BOUND = 1000000;
        // No step is told by less than a byte.
        private static final int MOST_STEPS = 256;

        private final int[] steps = new int[MOST_STEPS];
        private int length;

        void copyFrom(Law other) {
            System.arraycopy(other.steps, 0, steps, 0, MOST_STEPS);
            length = other.length;
        }

        void add(int kind, int argument) {
            if (length >= 0 && length < MOST_STEPS) {
                steps[length] = kind << KIND_SHIFT | argument;
                length++;
            }
        }

        /** The step, told before its end was known, goes to behind all that is told now. */
        void aimHere(int step) {
            if (step >= 0 && step < MOST_STEPS) {
                steps[step] = UNLESS << KIND_SHIFT | length;
            }
        }

        int worth(int[] letters, int[] pile) {
            int top = 0;
            for (int i = 0; i < length && i < MOST_STEPS; i++) {
                int kind = steps[i] >> KIND_SHIFT;
                int argument = steps[i] & ARGUMENT_MASK;
                if (kind <= LETTER) {
                    if (top >= pile.length || (kind == LETTER && argument >= letters.length)) {
                        return 0;
                    }
                    pile[top] = kind == LETTER ? letters[argument] : argument;
                    top++;
                } else if (kind <= OR) {
                    if (top < 2) {
                        return 0;
                    }
                    top--;
                    int first = pile[top - 1];
                    int second = pile[top];
                    pile[top - 1] = kind <= OVER ? joined(kind, first, second) : judged(kind, first, second);
                } else {
                    if (top < 1) {
                        return 0;
                    }
                    int value = pile[top - 1];
                    if (kind == ANSWER) {
                        return value;
                    }
                    if (kind == NOT) {
                        pile[top - 1] = value == 0 ? 1 : 0;
                    } else {
                        top--;
                        i = value == 0 && argument > i ? argument - 1 : i;
                    }
                }
            }
            return 0;
        }

        private static int joined(int kind, int a, int b) {
            long value = 0;
            if (kind == PLUS) {
                value = (long) a + b;
            } else if (kind == MINUS) {
                value = (long) a - b;
            } else if (kind == TIMES) {
                value = (long) a * b;
            } else if (b != 0) {
                value = a / b;
            }
            if (value > BOUND) {
                return BOUND;
            }
            return value < -BOUND ? -BOUND : (int) value;
        }

        private static int judged(int kind, int a, int b) {
            switch (kind) {
                case EQUAL:
                    return a == b ? 1 : 0;
                case BELOW:
                    return a < b ? 1 : 0;
                case ABOVE:
                    return a > b ? 1 : 0;
                case AND:
                    return a & b;
                default:
                    return a | b;
            }
        }
    }

    /** Reads the TAPE as a LAW into a law of its own, so that a fault spoils nothing. */
    private static final class LawReader {
        private static final int DEEPEST = 6;

        private final Tape tape;
        private final Law law;

        LawReader(Tape tape) {
            this.tape = tape;
            law = new Law();
        }

        /** False: the tape's reader stands at the fault. */
        boolean read() {
            tape.at = 0;
            law.length = 0;
            boolean more = true;
            for (int i = 0; more && i < TAPE_BYTES; i++) {
                if (!readClause()) {
                    return false;
                }
                more = tape.take(';');
            }
            return tape.sign() == Tape.ENDED;
        }

        private boolean readClause() {
            if (!tape.take('y') || !tape.take(':')) {
                return false;
            }
            int sign = tape.sign();
            boolean begun = sign != '!' && sign != '(';
            if (begun && !readSum(0)) {
                return false;
            }
            if (begun && comparison() == NONE) {
                law.add(Law.ANSWER, 0);
                return true;
            }
            if (!readCondition(0, begun) || !tape.take('?')) {
                return false;
            }
            int gate = law.length;
            law.add(Law.UNLESS, 0);
            if (!readSum(0)) {
                return false;
            }
            law.add(Law.ANSWER, 0);
            law.aimHere(gate);
            return true;
        }

        /** Begun: the first SUM of it has been read, before it could be known that it is a CONDITION. */
        private boolean readCondition(int depth, boolean begun) {
            if (!readTruth(depth, begun)) {
                return false;
            }
            for (int i = 0; i < TAPE_BYTES && tape.take('|'); i++) {
                if (!readTruth(depth, false)) {
                    return false;
                }
                law.add(Law.OR, 0);
            }
            return true;
        }

        private boolean readTruth(int depth, boolean begun) {
            if (!readUnit(depth, begun)) {
                return false;
            }
            for (int i = 0; i < TAPE_BYTES && tape.take('&'); i++) {
                if (!readUnit(depth, false)) {
                    return false;
                }
                law.add(Law.AND, 0);
            }
            return true;
        }

        private boolean readUnit(int depth, boolean begun) {
            int sign = tape.sign();
            if (!begun && (sign == '!' || sign == '(')) {
                return readNested(depth, sign);
            }
            if (!begun && !readSum(depth)) {
                return false;
            }
            int kind = comparison();
            if (kind == NONE) {
                return false;
            }
            tape.at++;
            if (!readSum(depth)) {
                return false;
            }
            law.add(kind, 0);
            return true;
        }

        private boolean readNested(int depth, int sign) {
            if (depth >= DEEPEST) {
                return false;
            }
            tape.at++;
            if (sign == '(') {
                return readCondition(depth + 1, false) && tape.take(')');
            }
            if (!readUnit(depth + 1, false)) {
                return false;
            }
            law.add(Law.NOT, 0);
            return true;
        }

        private int comparison() {
            switch (tape.sign()) {
                case '=':
                    return Law.EQUAL;
                case '<':
                    return Law.BELOW;
                case '>':
                    return Law.ABOVE;
                default:
                    return NONE;
            }
        }

        private boolean readSum(int depth) {
            if (!readTerm(depth)) {
                return false;
            }
            for (int i = 0; i < TAPE_BYTES; i++) {
                int sign = tape.sign();
                if (sign != '+' && sign != '-') {
                    return true;
                }
                tape.at++;
                if (!readTerm(depth)) {
                    return false;
                }
                law.add(sign == '+' ? Law.PLUS : Law.MINUS, 0);
            }
            return true;
        }

        private boolean readTerm(int depth) {
            if (!readAtom(depth)) {
                return false;
            }
            for (int i = 0; i < TAPE_BYTES; i++) {
                int sign = tape.sign();
                if (sign != '*' && sign != '/') {
                    return true;
                }
                tape.at++;
                if (!readAtom(depth)) {
                    return false;
                }
                law.add(sign == '*' ? Law.TIMES : Law.OVER, 0);
            }
            return true;
        }

        private boolean readAtom(int depth) {
            int sign = tape.sign();
            if (sign == '[') {
                if (depth >= DEEPEST) {
                    return false;
                }
                tape.at++;
                return readSum(depth + 1) && tape.take(']');
            }
            int letter = sign < 0 ? NONE : Law.LETTERS.indexOf((char) sign);
            if (letter >= 0) {
                tape.at++;
                law.add(Law.LETTER, letter);
                return true;
            }
            if (!tape.number(4)) {
                return false;
            }
            law.add(Law.NUMBER, tape.value);
            return true;
        }
    }

    /** The LAWS that were told, and which of them hold. */
    private static final class Laws {
        private final Law[] told = new Law[MOST_LAWS];
        private int count;
        private int lifting = NONE;
        private int wearing = NONE;

        Laws() {
            for (int i = 0; i < told.length; i++) {
                told[i] = new Law();
            }
        }

        int keep(Law law) {
            if (count < 0 || count >= told.length) {
                return NONE;
            }
            told[count].copyFrom(law);
            count++;
            return count - 1;
        }

        /** Null: none holds. */
        Law at(int i) {
            return i >= 0 && i < count && i < told.length ? told[i] : null;
        }
    }

    /** All that an ACT can change: the KITES, the MINUTE, the BOOK, the LAW. */
    private static final class State {
        private final int[] cells = new int[MOST_KITES * CELLS];
        private final int[] book = new int[BOOK_ROOM];
        private int bookLength;
        private int minute;
        private int carried;

        void clear() {
            for (int i = 0; i < cells.length; i++) {
                cells[i] = 0;
            }
            bookLength = 0;
            minute = 0;
            carried = 0;
        }

        void copyFrom(State other) {
            System.arraycopy(other.cells, 0, cells, 0, MOST_KITES * CELLS);
            System.arraycopy(other.book, 0, book, 0, BOOK_ROOM);
            bookLength = other.bookLength;
            minute = other.minute;
            carried = other.carried;
        }

        int get(int kite, int what) {
            int i = kite * CELLS + what;
            return i >= 0 && i < cells.length ? cells[i] : 0;
        }

        void set(int kite, int what, int value) {
            int i = kite * CELLS + what;
            if (i >= 0 && i < cells.length) {
                cells[i] = value;
            }
        }

        boolean flies(int kite) {
            return get(kite, FLIES) != 0;
        }

        int flyers() {
            int bits = 0;
            for (int kite = 0; kite < MOST_KITES; kite++) {
                if (flies(kite)) {
                    bits |= 1 << kite;
                }
            }
            return bits;
        }

        void ground(int kite) {
            set(kite, FLIES, 0);
            set(kite, HEIGHT, 0);
            set(kite, PAID, 0);
        }

        boolean isHeld(int place) {
            for (int kite = 0; kite < MOST_KITES; kite++) {
                if (flies(kite) && get(kite, PLACE) == place) {
                    return true;
                }
            }
            return false;
        }

        int unpaid(int kite) {
            return get(kite, LINE) - get(kite, PAID);
        }

        /** How much a line bears before it is cut. */
        int bears(int kite) {
            return Math.max(1, 10 - 3 * get(kite, KNOTS));
        }

        int heightOf(int set) {
            int sum = 0;
            for (int kite = 0; kite < MOST_KITES; kite++) {
                if ((set >> kite & 1) != 0) {
                    sum += get(kite, HEIGHT);
                }
            }
            return sum;
        }

        boolean isLow() {
            return heightOf(flyers()) == 0;
        }

        int feetFor(int opinion) {
            int sum = 0;
            for (int kite = 0; kite < MOST_KITES; kite++) {
                if (flies(kite) && get(kite, OPINION) == opinion) {
                    sum += 3 * get(kite, HEIGHT);
                }
            }
            return sum;
        }

        int feetOfClan(int clan) {
            int sum = 0;
            for (int kite = 0; kite < MOST_KITES; kite++) {
                if (flies(kite) && get(kite, CLAN) == clan) {
                    sum += 3 * get(kite, HEIGHT);
                }
            }
            return sum;
        }

        int booked(int i) {
            return i >= 0 && i < bookLength && i < book.length ? book[i] : NONE;
        }

        void putBy(int result) {
            if (bookLength >= 0 && bookLength < book.length) {
                book[bookLength] = result;
                bookLength++;
            }
            if (result != CALM) {
                carried = result;
            }
            minute = 0;
            for (int kite = 0; kite < MOST_KITES; kite++) {
                set(kite, WAXED, 0);
            }
        }
    }

    /** What a MINUTE does to a state. */
    private static final class Flight {
        private static final int PILE_ROOM = 256;

        private final Field field;
        private final Laws laws;
        private final int[] letters = new int[8];
        private final int[] pile = new int[PILE_ROOM];

        Flight(Field field, Laws laws) {
            this.field = field;
            this.laws = laws;
        }

        void pass(State state) {
            climb(state);
            rub(state);
        }

        /** (1) and (2). A LIFT looks at its own kite alone, so they can go kite by kite. */
        void climb(State state) {
            for (int kite = 0; kite < MOST_KITES; kite++) {
                if (!state.flies(kite)) {
                    continue;
                }
                int paid = state.get(kite, PAID);
                int mode = state.get(kite, MODE);
                if (mode == PAYING) {
                    paid = Math.min(state.get(kite, LINE), paid + field.pays);
                } else if (mode == HAULING) {
                    paid = Math.max(0, paid - field.pays);
                }
                state.set(kite, PAID, paid);
                int height = state.get(kite, HEIGHT) + liftOf(state, kite);
                state.set(kite, HEIGHT, within(height, 0, paid));
            }
        }

        void shake(State state, Draws draws, int chance) {
            for (int kite = 0; kite < MOST_KITES; kite++) {
                if (!state.flies(kite) || draws.draw(100) >= chance) {
                    continue;
                }
                int height = state.get(kite, HEIGHT);
                switch (draws.draw(3)) {
                    case 0:
                        state.set(kite, HEIGHT, Math.max(0, height - 5));
                        break;
                    case 1:
                        state.set(kite, HEIGHT, Math.min(state.get(kite, PAID), height + 5));
                        break;
                    default:
                        state.set(kite, WORN, state.get(kite, WORN) + 1);
                        break;
                }
            }
        }

        /** (3), and the MINUTE is one later. No WEAR looks at what is WORN, so it can be added at once. */
        void rub(State state) {
            for (int one = 0; one < MOST_KITES; one++) {
                if (!isUp(state, one)) {
                    continue;
                }
                for (int other = 0; other < MOST_KITES; other++) {
                    int apart = state.get(one, PLACE) - state.get(other, PLACE);
                    if ((apart == 1 || apart == -1) && isUp(state, other)) {
                        state.set(one, WORN, state.get(one, WORN) + wearOf(state, one, other));
                    }
                }
            }
            for (int kite = 0; kite < MOST_KITES; kite++) {
                if (state.flies(kite) && state.get(kite, WORN) >= state.bears(kite)) {
                    state.ground(kite);
                }
            }
            state.minute++;
        }

        private static boolean isUp(State state, int kite) {
            return state.flies(kite) && state.get(kite, HEIGHT) > 0;
        }

        int liftOf(State state, int kite) {
            int wind = field.windAt(state.get(kite, HEIGHT), state.minute);
            Law law = laws.at(laws.lifting);
            if (law == null) {
                return within(wind - state.get(kite, WEIGHT), -9, 9);
            }
            tellLetters(state, kite);
            letters[0] = wind;
            letters[4] = 0;
            letters[5] = 0;
            letters[6] = 0;
            return within(law.worth(letters, pile), -9, 9);
        }

        int wearOf(State state, int one, int other) {
            int wax = state.get(one, WAX);
            int otherWax = state.get(other, WAX);
            int above = state.get(one, HEIGHT) - state.get(other, HEIGHT);
            Law law = laws.at(laws.wearing);
            if (law == null) {
                return above > -10 && above < 10 ? within(1 + otherWax - wax, 0, 9) : 0;
            }
            tellLetters(state, one);
            letters[0] = 0;
            letters[4] = wax;
            letters[5] = otherWax;
            letters[6] = above;
            return within(law.worth(letters, pile), 0, 9);
        }

        /** In the order of Law.LETTERS: w, h, p and t are alike for both laws. */
        private void tellLetters(State state, int kite) {
            letters[1] = state.get(kite, WEIGHT);
            letters[2] = state.get(kite, HEIGHT);
            letters[3] = state.get(kite, PAID);
            letters[7] = state.minute;
        }

        int resultOf(State state) {
            int yea = state.feetFor(YEA);
            int both = yea + state.feetFor(NAY);
            if (both == 0) {
                return CALM;
            }
            return field.isMajority(yea, both) ? CARRIED : 0;
        }
    }

    /** The latest ACTS, each as all was before it, in a ring. */
    private static final class Acts {
        private final State[] before = new State[ACTS_KEPT];
        private int next;
        private int count;

        Acts() {
            for (int i = 0; i < before.length; i++) {
                before[i] = new State();
            }
        }

        void keep(State state) {
            if (next < 0 || next >= before.length) {
                next = 0;
            }
            before[next].copyFrom(state);
            next = (next + 1) % ACTS_KEPT;
            count = Math.min(ACTS_KEPT, count + 1);
        }

        boolean takeBack(State state) {
            int last = (next + ACTS_KEPT - 1) % ACTS_KEPT;
            if (count < 1 || last < 0 || last >= before.length) {
                return false;
            }
            state.copyFrom(before[last]);
            next = last;
            count--;
            return true;
        }

        void forget() {
            count = 0;
        }
    }

    /** What was SEEN: of a kite a height, so many minutes ahead. */
    private static final class Seen {
        private final int[] kites = new int[MOST_SEEN];
        private final int[] minutes = new int[MOST_SEEN];
        private final int[] heights = new int[MOST_SEEN];
        private int count;

        void add(int kite, int minute, int height) {
            if (count >= 0 && count < MOST_SEEN) {
                kites[count] = kite;
                minutes[count] = minute;
                heights[count] = height;
                count++;
            }
        }

        int lastOf(int kite) {
            int last = 0;
            for (int i = 0; i < count && i < MOST_SEEN; i++) {
                if (kites[i] == kite) {
                    last = Math.max(last, minutes[i]);
                }
            }
            return last;
        }

        boolean allows(int kite, int minute, int height) {
            for (int i = 0; i < count && i < MOST_SEEN; i++) {
                if (kites[i] == kite && minutes[i] == minute && heights[i] != height) {
                    return false;
                }
            }
            return true;
        }
    }

    /** The draws of GUSTS, from a seed. */
    private static final class Draws {
        private long x;

        Draws(long seed) {
            x = seed;
        }

        int draw(int k) {
            x = x * 6364136223846793005L + 1442695040888963407L;
            return k > 0 ? (int) ((x >>> 33) % k) : 0;
        }
    }
}
