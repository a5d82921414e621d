/** A city of leaning men, the lead that hangs over them, and the shelves they come from. */
public final class PlumbLine {
    private static final int MEN = 8;
    private static final int KINDS = 8;
    private static final int FIGURES = 10;
    private static final int PLACES = 8;
    private static final int SHELVES = 8;
    private static final int ELEMENTS = 100;
    private static final int FARTHEST = 45;
    private static final int LEANS = 91;
    private static final int MOST_SWINGS = 9;
    private static final int MOST_CRASHES = 999;
    private static final int LAST_DAY = 999;
    private static final int DAYS_ON = 60;

    private static final int BAD = -1;
    private static final int NO_ROOM = -2;
    private static final int NOT_SO = -3;
    private static final int NONE = -4;
    private static final int NOTHING_HELD = -11;
    private static final int OTHER_KIND = -12;
    private static final int NO_PLACE = -13;
    private static final int BELOW_ZERO = -14;
    private static final int NO_FAILURE = -15;
    private static final int LEAN_REFUSED = 1000000001;

    private final City now;
    private final City saved;
    private final City tried;
    private final Mind mind;
    private final Shelf[] shelves;
    private boolean hasImage;

    public PlumbLine() {
        Man[] kinds = {new Man(), new Banker(), new Quaker(), new Clerk(),
            new Broker(), new Scrubber(), new Swindler(), new Partner()};
        now = new City(kinds);
        saved = new City(kinds);
        tried = new City(kinds);
        mind = new Mind(now, new City(kinds));
        shelves = new Shelf[SHELVES];
        for (int d = 0; d < SHELVES; d++) {
            shelves[d] = new Shelf(kinds);
        }
    }

    // ---- the city as told

    public int city(int d) {
        int refusal = refusalOfRow(d);
        if (refusal != 0) {
            return refusal;
        }
        Shelf text = shelves[d];
        if (!text.isText()) {
            return OTHER_KIND;
        }
        int fault = text.faultOfForm();
        if (fault >= 0) {
            return -1000 - fault;
        }
        // tried on another city, so that a fault leaves nothing behind
        tried.becomes(now);
        int statements = 0;
        for (int at = 0; at < text.size; at += Shelf.lengthBy(text.elements[at])) {
            if (!tried.takesStatement(text, at)) {
                return -2000 - at;
            }
            statements++;
        }
        now.becomes(tried);
        return statements;
    }

    public int lean(int m) {
        return now.has(m) ? now.lean[m] : LEAN_REFUSED;
    }

    public int man(int m, int what) {
        if (!now.has(m)) {
            return BAD;
        }
        switch (what) {
            case 0: return now.kind[m];
            case 1: return now.figure[m];
            case 2: return now.isPropped(m) ? 1 : 0;
            case 3: return now.isUpright(m) ? 1 : 0;
            case 4: return now.discountOf(m);
            case 5: return now.trustedBy(m);
            default: return BAD;
        }
    }

    public int comes(int d, int lean) {
        if (!isIn(lean, -FARTHEST, FARTHEST)) {
            return BAD;
        }
        int refusal = refusalOfKind(d);
        if (refusal != 0) {
            return refusal;
        }
        Shelf one = shelves[d];
        return now.takesIn(one.kind, one.figure, lean) ? now.men - 1 : NO_ROOM;
    }

    public int pushes(int m, int lean) {
        if (!now.has(m) || !isIn(lean, -FARTHEST, FARTHEST)) {
            return LEAN_REFUSED;
        }
        int old = now.lean[m];
        now.lean[m] = lean;
        return old;
    }

    public int props(int m) {
        if (!now.has(m)) {
            return BAD;
        }
        now.turnProp(m);
        return now.isPropped(m) ? 1 : 0;
    }

    public int hangs(int swings, int place) {
        if (!isIn(swings, 0, MOST_SWINGS) || !isIn(place, 0, PLACES - 1)) {
            return BAD;
        }
        int old = 10 * now.swings + now.place;
        now.swings = swings;
        now.place = place;
        return old;
    }

    public int days(int n) {
        if (!isIn(n, 1, DAYS_ON)) {
            return BAD;
        }
        if (now.day + n > LAST_DAY) {
            return NOT_SO;
        }
        now.passDays(n);
        return Integer.bitCount(now.upright());
    }

    // ---- days on

    public int leanThen(int m, int n) {
        if (!now.has(m) || !isIn(n, 0, DAYS_ON)) {
            return LEAN_REFUSED;
        }
        return mind.after(n).lean[m];
    }

    public int then(int n, int what) {
        if (!isIn(n, 0, DAYS_ON) || !isIn(what, 0, 3)) {
            return BAD;
        }
        City later = mind.after(n);
        switch (what) {
            case 0: return later.place;
            case 1: return later.swings;
            case 2: return later.crashes;
            default: return later.upright();
        }
    }

    public int straight(int m) {
        return now.has(m) ? mind.daysToStraight(m) : BAD;
    }

    public int crash(int what) {
        switch (what) {
            case 0: return mind.daysToCrash();
            case 1: return mind.daysToStill();
            default: return BAD;
        }
    }

    public int finds(int m) {
        return now.has(m) ? mind.daysToFind(m) : BAD;
    }

    // ---- trust, props

    public int trust(int what) {
        switch (what) {
            case 0: return now.mostTrusted();
            case 1: return now.rivals();
            case 2: return now.plumb();
            case 3: return now.east();
            case 4: return now.discountOfAll();
            default: return BAD;
        }
    }

    public int tells(int m) {
        return now.has(m) ? now.tellers(m) : BAD;
    }

    public int fewestProps(int n) {
        return isIn(n, 1, 30) ? mind.propsAgainstCrash(n) : BAD;
    }

    public int push(int n) {
        return isIn(n, 0, 20) ? mind.bestPush(n) : BAD;
    }

    public int right(int what) {
        switch (what) {
            case 0: return now.rightOne();
            case 1: return now.walls();
            case 2: return now.balance();
            default: return BAD;
        }
    }

    // ---- what he did, where it hung

    public int whatIs(int d, int m, int what) {
        if (!now.has(m) || !isIn(what, 0, 1)) {
            return BAD;
        }
        int refusal = refusalOfRow(d);
        if (refusal != 0) {
            return refusal;
        }
        return what == 0 ? mind.kindsThatDid(m, shelves[d]) : mind.figuresThatDid(m, shelves[d]);
    }

    public int whereHung(int d, int what) {
        if (!isIn(what, 0, 2)) {
            return BAD;
        }
        int refusal = refusalOfRow(d);
        return refusal != 0 ? refusal : mind.hangings(shelves[d], what);
    }

    public int two(int a, int b, int n) {
        if (!now.has(a) || !now.has(b) || a == b || !isIn(n, 1, 30)) {
            return BAD;
        }
        return mind.settledPair(a, b, n);
    }

    public long shocks(int m, int n, int t, int part) {
        if (!now.has(m) || !isIn(n, 0, 7) || !isIn(t, 2, 20) || !isIn(part, 0, 1)) {
            return LEAN_REFUSED;
        }
        return leastTerm(mind.shockedUpright(m, n, t), power(t, n), part);
    }

    public long mean(int part) {
        if (!isIn(part, 0, 1)) {
            return LEAN_REFUSED;
        }
        if (now.men == 0) {
            return part;
        }
        return leastTerm(now.sumOfLeans() + FARTHEST * now.men, now.men, part);
    }

    // ---- told cards, years by seeds

    public int forged(int d) {
        int refusal = refusalOfRow(d);
        return refusal != 0 ? refusal : firstForged(shelves[d]);
    }

    public int judge(int d) {
        int refusal = refusalOfRow(d);
        return refusal != 0 ? refusal : mind.firstMisjudged(shelves[d]);
    }

    public int years(int n, int z, int what) {
        if (!isIn(n, 1, 20) || !isIn(what, 0, 1)) {
            return BAD;
        }
        return mind.drawnYears(n, z, what);
    }

    // ---- the image, what is told

    public int image() {
        saved.becomes(now);
        hasImage = true;
        return now.day;
    }

    public int restore() {
        if (!hasImage) {
            return NOT_SO;
        }
        now.becomes(saved);
        return now.day;
    }

    public int count(int what) {
        switch (what) {
            case 0: return now.men;
            case 1: return now.day;
            case 2: return now.place;
            case 3: return now.swings;
            case 4: return now.crashes;
            case 5: return now.upright();
            case 6: return now.propped;
            default: return BAD;
        }
    }

    // ---- shelves

    public int keep(int d, int what, int k, int figure) {
        if (!isShelf(d) || !isIn(what, 0, 1)) {
            return BAD;
        }
        if (what == 0) {
            shelves[d].clears();
            return 0;
        }
        if (!isIn(k, 0, KINDS - 1) || !isIn(figure, 0, FIGURES - 1)) {
            return BAD;
        }
        shelves[d].holdsKind(k, figure);
        return 0;
    }

    public int row(int d, int sort, int n) {
        if (!isShelf(d) || !isIn(sort, 0, 2) || n > ELEMENTS) {
            return BAD;
        }
        if (n < 0) {
            return BELOW_ZERO;
        }
        shelves[d].holdsRow(sort, n);
        return 0;
    }

    public int put(int d, int i, int v) {
        int refusal = refusalOfRow(d);
        if (refusal != 0) {
            return refusal;
        }
        if (!shelves[d].hasElement(i)) {
            return NO_PLACE;
        }
        shelves[d].sets(i, v);
        return 0;
    }

    public long element(int d, int i) throws IllegalArgumentException, IllegalStateException {
        if (!isShelf(d)) {
            throw new IllegalArgumentException("no such shelf");
        }
        if (!shelves[d].hasRow() || !shelves[d].hasElement(i)) {
            throw new IllegalStateException("no such element");
        }
        return shelves[d].elements[i];
    }

    public int copy(int d, int i, int e, int j, int n) {
        if (!isShelf(d) || !isShelf(e)) {
            return BAD;
        }
        Shelf from = shelves[d];
        Shelf to = shelves[e];
        if (from.isEmpty() || to.isEmpty()) {
            return NOTHING_HELD;
        }
        if (!from.hasRow() || !to.hasRow() || from.sort != to.sort) {
            return OTHER_KIND;
        }
        if (!from.hasElements(i, n) || !to.hasElements(j, n)) {
            return NO_PLACE;
        }
        System.arraycopy(from.elements, i, to.elements, j, n);
        return n;
    }

    public int cost(int d) {
        int refusal = refusalOfKind(d);
        return refusal != 0 ? refusal : shelves[d].price();
    }

    public int toss(int d) {
        int refusal = refusalOfKind(d);
        if (refusal != 0) {
            return refusal;
        }
        Shelf one = shelves[d];
        try {
            one.fails();
        } catch (UnsupportedOperationException swindle) {
            return 200 + one.price();
        } catch (IllegalArgumentException bankruptcy) {
            return 100 + one.figure;
        } catch (IllegalStateException fault) {
            return one.figure;
        }
        return NO_FAILURE;
    }

    // ---- what the calls share

    private static boolean isIn(int number, int least, int most) {
        return number >= least && number <= most;
    }

    private static boolean isShelf(int d) {
        return isIn(d, 0, SHELVES - 1);
    }

    private int refusalOfRow(int d) {
        if (!isShelf(d)) {
            return BAD;
        }
        if (shelves[d].isEmpty()) {
            return NOTHING_HELD;
        }
        return shelves[d].hasRow() ? 0 : OTHER_KIND;
    }

    private int refusalOfKind(int d) {
        if (!isShelf(d)) {
            return BAD;
        }
        if (shelves[d].isEmpty()) {
            return NOTHING_HELD;
        }
        return shelves[d].hasRow() ? OTHER_KIND : 0;
    }

    private int firstForged(Shelf card) {
        for (int m = 0; m < card.size; m++) {
            if (!now.has(m) || card.elements[m] != now.lean[m]) {
                return m;
            }
        }
        return NONE;
    }

    private static long power(int base, int exponent) {
        long product = 1;
        for (int i = 0; i < exponent; i++) {
            product *= base;
        }
        return product;
    }

    private static long leastTerm(long above, long below, int part) {
        long divisor = commonDivisor(above, below);
        if (divisor == 0) {
            return part;
        }
        return part == 0 ? above / divisor : below / divisor;
    }

    private static long commonDivisor(long a, long b) {
        long greater = a;
        long less = b;
        // Euclid's steps on longs stay under a hundred
        for (int step = 0; step < 1000 && less != 0; step++) {
            long rest = greater % less;
            greater = less;
            less = rest;
        }
        return greater;
    }

    // ---- the kinds of men: each says only what differs from the one it is under

    private static class Man {
        int leansMore(int lean, int figure, int mean, int day) {
            return stepTowards(lean, mean, 1);
        }

        int uprightWithin(int figure) {
            return 5;
        }

        int discountAt(int far, int figure) {
            return far;
        }

        int priceBy(int figure) {
            return 3;
        }

        void failsBy(int figure) {
            if (figure != 0) {
                throw new IllegalStateException("a man's failure");
            }
        }

        static int stepTowards(int from, int to, int most) {
            int gap = to - from;
            if (gap > most) {
                return most;
            }
            return gap < -most ? -most : gap;
        }
    }

    private static class Banker extends Man {
        int leansMore(int lean, int figure, int mean, int day) {
            return 0;
        }

        int uprightWithin(int figure) {
            return figure;
        }

        int discountAt(int far, int figure) {
            return far / 2;
        }

        int priceBy(int figure) {
            return super.priceBy(figure) + figure;
        }

        void failsBy(int figure) {
            if (figure != 0) {
                throw new IllegalArgumentException("a banker's failure");
            }
        }
    }

    private static class Quaker extends Man {
        int leansMore(int lean, int figure, int mean, int day) {
            return stepTowards(lean, 0, 1);
        }

        int uprightWithin(int figure) {
            return 0;
        }

        int discountAt(int far, int figure) {
            return 2 * far;
        }

        int priceBy(int figure) {
            return 1;
        }

        void failsBy(int figure) {
            // a Quaker has no failure to throw
        }
    }

    private static class Clerk extends Man {
        int leansMore(int lean, int figure, int mean, int day) {
            return stepTowards(lean, mean, 2);
        }

        int uprightWithin(int figure) {
            return super.uprightWithin(figure) + 3;
        }

        int priceBy(int figure) {
            return 2;
        }
    }

    private static class Broker extends Banker {
        int leansMore(int lean, int figure, int mean, int day) {
            int step = figure / 3 + 1;
            return lean < 0 ? -step : step;
        }

        int uprightWithin(int figure) {
            return 2 * super.uprightWithin(figure);
        }

        int discountAt(int far, int figure) {
            return super.discountAt(far, figure) + 3;
        }

        int priceBy(int figure) {
            return 2 * super.priceBy(figure);
        }
    }

    private static final class Scrubber extends Quaker {
        int leansMore(int lean, int figure, int mean, int day) {
            return stepTowards(lean, 0, 5);
        }

        int uprightWithin(int figure) {
            return 9;
        }

        int discountAt(int far, int figure) {
            return 0;
        }

        int priceBy(int figure) {
            return 0;
        }
    }

    private static final class Swindler extends Broker {
        int leansMore(int lean, int figure, int mean, int day) {
            return 2 * super.leansMore(lean, figure, mean, day);
        }

        int discountAt(int far, int figure) {
            return 0;
        }

        void failsBy(int figure) {
            if (figure != 0) {
                throw new UnsupportedOperationException("a swindler's failure");
            }
        }
    }

    private static final class Partner extends Clerk {
        int leansMore(int lean, int figure, int mean, int day) {
            return day % 2 == 0 ? super.leansMore(lean, figure, mean, day) : 0;
        }

        int discountAt(int far, int figure) {
            return super.discountAt(far, figure) + figure;
        }

        int priceBy(int figure) {
            return super.priceBy(figure) + 4;
        }
    }

    /** The men, the lead and the day; as they are, as they were, or in mind. */
    private static final class City {
        final int[] kind = new int[MEN];
        final int[] figure = new int[MEN];
        final int[] lean = new int[MEN];
        int men;
        int propped;
        int place;
        int swings;
        int crashes;
        int day;
        boolean crashedToday;
        private final Man[] kinds;
        private final int[] seated = new int[MEN];

        City(Man[] kinds) {
            this.kinds = kinds;
        }

        void becomes(City other) {
            System.arraycopy(other.kind, 0, kind, 0, MEN);
            System.arraycopy(other.figure, 0, figure, 0, MEN);
            System.arraycopy(other.lean, 0, lean, 0, MEN);
            men = other.men;
            propped = other.propped;
            place = other.place;
            swings = other.swings;
            crashes = other.crashes;
            day = other.day;
        }

        boolean has(int m) {
            return m >= 0 && m < men;
        }

        boolean takesIn(int newKind, int newFigure, int newLean) {
            if (men >= MEN) {
                return false;
            }
            kind[men] = newKind;
            figure[men] = newFigure;
            lean[men] = newLean;
            men++;
            return true;
        }

        boolean isPropped(int m) {
            return (propped & 1 << m) != 0;
        }

        void turnProp(int m) {
            propped ^= 1 << m;
        }

        // -- a text's statements

        boolean takesStatement(Shelf text, int at) {
            switch (text.elements[at]) {
                case 'm': return takesManTold(text, at);
                case 'l': return takesLeanTold(text, at);
                case 'r': return takesPropTold(text, at);
                case 'w': return takesLeadTold(text, at);
                default: return takesDaysTold(text, at);
            }
        }

        private boolean takesManTold(Shelf text, int at) {
            int newKind = text.digit(at + 1);
            int newLean = text.twoDigits(at + 3) - FARTHEST;
            return newKind < KINDS && newLean <= FARTHEST
                && takesIn(newKind, text.digit(at + 2), newLean);
        }

        private boolean takesLeanTold(Shelf text, int at) {
            int m = text.digit(at + 1);
            int newLean = text.twoDigits(at + 2) - FARTHEST;
            if (!has(m) || newLean > FARTHEST) {
                return false;
            }
            lean[m] = newLean;
            return true;
        }

        private boolean takesPropTold(Shelf text, int at) {
            int m = text.digit(at + 1);
            if (!has(m)) {
                return false;
            }
            turnProp(m);
            return true;
        }

        private boolean takesLeadTold(Shelf text, int at) {
            int newPlace = text.digit(at + 2);
            if (newPlace >= PLACES) {
                return false;
            }
            swings = text.digit(at + 1);
            place = newPlace;
            return true;
        }

        private boolean takesDaysTold(Shelf text, int at) {
            int n = text.twoDigits(at + 1);
            if (!isIn(n, 1, DAYS_ON) || day + n > LAST_DAY) {
                return false;
            }
            passDays(n);
            return true;
        }

        // -- days

        /** Tells on how many of the days there is a crash: crashes at the most do not show it. */
        int passDays(int n) {
            int crashed = 0;
            for (int i = 0; i < n; i++) {
                passDay();
                if (crashedToday) {
                    crashed++;
                }
            }
            return crashed;
        }

        void passDay() {
            day++;
            int mean = men == 0 ? 0 : sumOfLeans() / men;
            for (int m = 0; m < men; m++) {
                if (!isPropped(m)) {
                    int more = kinds[kind[m]].leansMore(lean[m], figure[m], mean, day);
                    lean[m] = Math.max(-FARTHEST, Math.min(FARTHEST, lean[m] + more));
                }
            }
            crashedToday = Integer.bitCount(upright()) < men / 2;
            if (crashedToday) {
                crashes = Math.min(MOST_CRASHES, crashes + 1);
                swings = MOST_SWINGS;
                turnSigns();
            } else {
                swings = Math.max(0, swings - 1);
            }
            moveLead();
        }

        void turnSigns() {
            for (int m = 0; m < men; m++) {
                if (!isPropped(m)) {
                    lean[m] = -lean[m];
                }
            }
        }

        private void moveLead() {
            if (men == 0) {
                return;
            }
            if (swings > 0) {
                place = place + 1 < men ? place + 1 : 0;
            } else {
                place += Man.stepTowards(place, plumb(), 1);
            }
        }

        // -- leans

        int sumOfLeans() {
            int sum = 0;
            for (int m = 0; m < men; m++) {
                sum += lean[m];
            }
            return sum;
        }

        private int far(int m) {
            return Math.abs(lean[m]);
        }

        boolean isUpright(int m) {
            return isUprightAt(m, far(m));
        }

        private boolean isUprightAt(int m, int away) {
            return away <= kinds[kind[m]].uprightWithin(figure[m]);
        }

        /** Asks the kinds themselves, not isUpright: a day's calls may go no deeper. */
        int upright() {
            int bits = 0;
            for (int m = 0; m < men; m++) {
                if (Math.abs(lean[m]) <= kinds[kind[m]].uprightWithin(figure[m])) {
                    bits |= 1 << m;
                }
            }
            return bits;
        }

        int discountOf(int m) {
            return kinds[kind[m]].discountAt(far(m), figure[m]);
        }

        int discountOfAll() {
            int sum = 0;
            for (int m = 0; m < men; m++) {
                sum += discountOf(m);
            }
            return sum;
        }

        int plumb() {
            int best = NONE;
            for (int m = 0; m < men; m++) {
                if (best == NONE || Math.abs(lean[m]) < Math.abs(lean[best])) {
                    best = m;
                }
            }
            return best;
        }

        int east() {
            int those = 0;
            for (int m = 0; m < men; m++) {
                if (lean[m] > 0) {
                    those++;
                }
            }
            return those;
        }

        int rightOne() {
            int best = NONE;
            int most = -1;
            for (int m = 0; m < men; m++) {
                int others = uprightFrom(m);
                if (others > most) {
                    most = others;
                    best = m;
                }
            }
            return best;
        }

        private int uprightFrom(int zero) {
            int others = 0;
            for (int m = 0; m < men; m++) {
                if (m != zero && isUprightAt(m, Math.abs(lean[m] - lean[zero]))) {
                    others++;
                }
            }
            return others;
        }

        int walls() {
            int most = NONE;
            for (int m = 0; m < men; m++) {
                seated[m] = 1;
                for (int ahead = 0; ahead < m; ahead++) {
                    if (lean[ahead] <= lean[m]) {
                        seated[m] = Math.max(seated[m], seated[ahead] + 1);
                    }
                }
                most = Math.max(most, seated[m]);
            }
            return most;
        }

        int balance() {
            int best = 0;
            for (int bits = 1; bits < 1 << men; bits++) {
                if (Integer.bitCount(bits) > Integer.bitCount(best) && sumOf(bits) == 0) {
                    best = bits;
                }
            }
            return best;
        }

        private int sumOf(int bits) {
            int sum = 0;
            for (int m = 0; m < men; m++) {
                if ((bits & 1 << m) != 0) {
                    sum += lean[m];
                }
            }
            return sum;
        }

        // -- trust

        private int side(int m) {
            if (lean[m] == 0) {
                return 0;
            }
            return lean[m] < 0 ? -1 : 1;
        }

        private boolean trusts(int one, int other) {
            return one != other
                && side(one) == side(other)
                && far(other) <= far(one) + 10;
        }

        int trustedBy(int m) {
            int bits = 0;
            for (int one = 0; one < men; one++) {
                if (trusts(one, m)) {
                    bits |= 1 << one;
                }
            }
            return bits;
        }

        int mostTrusted() {
            int best = NONE;
            int most = -1;
            for (int m = 0; m < men; m++) {
                int by = Integer.bitCount(trustedBy(m));
                if (by > most) {
                    most = by;
                    best = m;
                }
            }
            return best;
        }

        int rivals() {
            int twos = 0;
            for (int one = 0; one < men; one++) {
                for (int other = 0; other < one; other++) {
                    if (!trusts(one, other) && !trusts(other, one)) {
                        twos++;
                    }
                }
            }
            return twos;
        }

        int tellers(int m) {
            int bits = trustedBy(m);
            // each round that adds nobody is the last; there are no more rounds than men
            for (int round = 0; round < men; round++) {
                int more = bits;
                for (int told = 0; told < men; told++) {
                    if ((bits & 1 << told) != 0) {
                        more |= trustedBy(told);
                    }
                }
                bits = more;
            }
            return bits;
        }
    }

    /** What would be: every question is asked of a city in mind, begun anew from now. */
    private static final class Mind {
        private final City now;
        private final City then;
        private final int[] gains = new int[4];
        private final int[] othersGains = new int[4];
        private final int[] before = new int[MEN];

        Mind(City now, City then) {
            this.now = now;
            this.then = then;
        }

        City after(int n) {
            then.becomes(now);
            then.passDays(n);
            return then;
        }

        // -- when first

        int daysToStraight(int m) {
            then.becomes(now);
            for (int n = 0; n <= DAYS_ON; n++) {
                if (then.lean[m] == 0) {
                    return n;
                }
                then.passDay();
            }
            return NONE;
        }

        int daysToCrash() {
            then.becomes(now);
            for (int n = 1; n <= DAYS_ON; n++) {
                then.passDay();
                if (then.crashedToday) {
                    return n;
                }
            }
            return NONE;
        }

        int daysToFind(int m) {
            then.becomes(now);
            for (int n = 0; n <= DAYS_ON; n++) {
                if (then.place == m) {
                    return n;
                }
                then.passDay();
            }
            return NONE;
        }

        /** Ten days alike, one behind the other, are what makes it still. */
        int daysToStill() {
            then.becomes(now);
            int alike = 0;
            for (int n = 1; n <= DAYS_ON; n++) {
                alike = passesAlike() ? alike + 1 : 0;
                if (alike == 10) {
                    return n - 10;
                }
            }
            return NONE;
        }

        private boolean passesAlike() {
            System.arraycopy(then.lean, 0, before, 0, MEN);
            then.passDay();
            for (int m = 0; m < then.men; m++) {
                if (then.lean[m] != before[m]) {
                    return false;
                }
            }
            return true;
        }

        // -- props and pushes

        int propsAgainstCrash(int n) {
            for (int size = 0; size <= now.men; size++) {
                for (int bits = 0; bits < 1 << now.men; bits++) {
                    if (Integer.bitCount(bits) == size && (bits & now.propped) == 0
                        && staysWhole(bits, n)) {
                        return bits;
                    }
                }
            }
            return NONE;
        }

        private boolean staysWhole(int bits, int n) {
            then.becomes(now);
            then.propped |= bits;
            for (int i = 0; i < n; i++) {
                then.passDay();
                if (then.crashedToday) {
                    return false;
                }
            }
            return true;
        }

        int bestPush(int n) {
            int best = NONE;
            int most = Integer.bitCount(after(n).upright());
            for (int m = 0; m < now.men; m++) {
                for (int told = 0; told < LEANS; told++) {
                    then.becomes(now);
                    then.lean[m] = told - FARTHEST;
                    then.passDays(n);
                    int those = Integer.bitCount(then.upright());
                    if (those > most) {
                        most = those;
                        best = 100 * m + told;
                    }
                }
            }
            return best;
        }

        // -- what rows tell

        int kindsThatDid(int m, Shelf row) {
            int bits = 0;
            for (int k = 0; k < KINDS; k++) {
                then.becomes(now);
                then.kind[m] = k;
                if (leansAsTold(m, row)) {
                    bits |= 1 << k;
                }
            }
            return bits;
        }

        int figuresThatDid(int m, Shelf row) {
            int bits = 0;
            for (int figure = 0; figure < FIGURES; figure++) {
                then.becomes(now);
                then.figure[m] = figure;
                if (leansAsTold(m, row)) {
                    bits |= 1 << figure;
                }
            }
            return bits;
        }

        private boolean leansAsTold(int m, Shelf row) {
            for (int i = 0; i < row.size; i++) {
                if (!row.agrees(i, then.lean[m])) {
                    return false;
                }
                then.passDay();
            }
            return true;
        }

        int hangings(Shelf row, int what) {
            int those = 0;
            int least = NONE;
            int greatest = NONE;
            for (int swings = 0; swings <= MOST_SWINGS; swings++) {
                for (int place = 0; place < PLACES; place++) {
                    if (hangsAsTold(swings, place, row)) {
                        those++;
                        greatest = 10 * swings + place;
                        least = least == NONE ? greatest : least;
                    }
                }
            }
            if (what == 0) {
                return those;
            }
            return what == 1 ? least : greatest;
        }

        private boolean hangsAsTold(int swings, int place, Shelf row) {
            then.becomes(now);
            then.swings = swings;
            then.place = place;
            for (int i = 0; i < row.size; i++) {
                if (!row.agrees(i, then.place)) {
                    return false;
                }
                then.passDay();
            }
            return true;
        }

        int firstMisjudged(Shelf row) {
            then.becomes(now);
            for (int i = 0; i < row.size; i++) {
                if (!row.agrees(i, Integer.bitCount(then.upright()))) {
                    return i;
                }
                then.passDay();
            }
            return NONE;
        }

        // -- two who choose

        int settledPair(int a, int b, int n) {
            for (int pair = 0; pair < 4; pair++) {
                int props = (pair >> 1) << a | (pair & 1) << b;
                then.becomes(now);
                then.propped |= props;
                int crashed = then.passDays(n);
                gains[pair] = gainOf(a, pair >> 1, crashed);
                othersGains[pair] = gainOf(b, pair & 1, crashed);
            }
            for (int pair = 0; pair < 4; pair++) {
                if (gains[pair] >= gains[pair ^ 2] && othersGains[pair] >= othersGains[pair ^ 1]) {
                    return 10 * (pair >> 1) + (pair & 1);
                }
            }
            return NONE;
        }

        private int gainOf(int m, int choice, int crashed) {
            int wish = then.isUpright(m) ? 6 : 0;
            return wish - 2 * choice - crashed;
        }

        // -- odds and draws

        /** Of power(t, n) ways in all, those behind which m is upright. */
        long shockedUpright(int m, int n, int t) {
            long ways = 0;
            for (int shocked = 0; shocked < 1 << n; shocked++) {
                then.becomes(now);
                for (int i = 0; i < n; i++) {
                    if ((shocked & 1 << i) != 0) {
                        then.turnSigns();
                    }
                    then.passDay();
                }
                if (then.isUpright(m)) {
                    ways += power(t - 1, n - Integer.bitCount(shocked));
                }
            }
            return ways;
        }

        int drawnYears(int n, int seed, int what) {
            int z = seed;
            int those = 0;
            int crashes = 0;
            for (int year = 0; year < n; year++) {
                then.becomes(now);
                for (int m = 0; m < then.men; m++) {
                    z = z * 1103515245 + 12345;
                    then.lean[m] = (z & 0x7fffffff) / 65536 % LEANS - FARTHEST;
                }
                then.passDays(12);
                those += Integer.bitCount(then.upright());
                // by the number told as CRASHES, which stays at its most
                crashes += then.crashes - now.crashes;
            }
            return what == 0 ? those : crashes;
        }
    }

    /** Holds nothing, a kind of man, or a row; a row's elements stand in one array for good. */
    private static final class Shelf {
        private static final int NOTHING = 0;
        private static final int KIND = 1;
        private static final int ROW = 2;

        final int[] elements = new int[ELEMENTS];
        int kind;
        int figure;
        int sort;
        int size;
        private int held;
        private final Man[] kinds;

        Shelf(Man[] kinds) {
            this.kinds = kinds;
        }

        boolean isEmpty() {
            return held == NOTHING;
        }

        boolean hasRow() {
            return held == ROW;
        }

        void clears() {
            held = NOTHING;
        }

        // -- a kind

        void holdsKind(int newKind, int newFigure) {
            held = KIND;
            kind = newKind;
            figure = newFigure;
        }

        int price() {
            return kinds[kind].priceBy(figure);
        }

        void fails() {
            kinds[kind].failsBy(figure);
        }

        // -- a row

        void holdsRow(int newSort, int newSize) {
            held = ROW;
            sort = newSort;
            size = newSize;
            for (int i = 0; i < ELEMENTS; i++) {
                elements[i] = 0;
            }
        }

        boolean hasElement(int i) {
            return i >= 0 && i < size;
        }

        boolean hasElements(int from, int n) {
            return from >= 0 && n >= 0 && from <= size && n <= size - from;
        }

        void sets(int i, int v) {
            elements[i] = sort == 0 ? (byte) v : sort == 1 ? (short) v : v;
        }

        private int leastOfSort() {
            return sort == 0 ? -128 : sort == 1 ? -32768 : -2147483648;
        }

        boolean agrees(int i, int value) {
            return elements[i] == value || elements[i] == leastOfSort();
        }

        // -- a text

        boolean isText() {
            return sort == 0;
        }

        /** The place of the first byte with which no text can go on, or -1. */
        int faultOfForm() {
            int at = 0;
            do {
                int fault = faultOfStatement(at);
                if (fault >= 0) {
                    return fault;
                }
                at += lengthBy(elements[at]);
            } while (at < size);
            return -1;
        }

        private int faultOfStatement(int at) {
            if (!hasElement(at) || digitsBehind(elements[at]) == 0) {
                return at;
            }
            int end = at + lengthBy(elements[at]) - 1;
            for (int i = at + 1; i < end; i++) {
                if (!hasElement(i) || !isIn(elements[i], '0', '9')) {
                    return i;
                }
            }
            return hasElement(end) && elements[end] == ';' ? -1 : end;
        }

        /** A statement's bytes: its letter, its digits, its ";". */
        static int lengthBy(int letter) {
            return digitsBehind(letter) + 2;
        }

        /** How many digits a statement has behind its letter; 0 if it is no letter of one. */
        private static int digitsBehind(int letter) {
            switch (letter) {
                case 'm': return 4;
                case 'l': return 3;
                case 'r': return 1;
                case 'w': return 2;
                case 'd': return 2;
                default: return 0;
            }
        }

        int digit(int i) {
            return hasElement(i) ? elements[i] - '0' : 0;
        }

        int twoDigits(int i) {
            return 10 * digit(i) + digit(i + 1);
        }
    }
}
