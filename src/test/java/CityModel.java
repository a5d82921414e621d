import java.math.BigInteger;
import java.util.ArrayList;
import java.util.List;
import java.util.TreeSet;
import java.util.function.Predicate;
import java.util.function.ToIntFunction;
import java.util.regex.Matcher;
import java.util.regex.Pattern;

/** A second, slow reading of the document, made of copies and searches, to compare answers with. */
final class CityModel {
    private static final long REFUSED = 1000000001L;
    private static final int[] UNDER = {-1, 0, 0, 0, 1, 2, 4, 3};
    private static final Pattern STATEMENT =
        Pattern.compile("m[0-9]{4};|l[0-9]{3};|r[0-9];|[wd][0-9]{2};");

    record One(int kind, int figure, int lean, boolean propped) {
        One leaning(int l) {
            return new One(kind, figure, l, propped);
        }

        One propped(boolean p) {
            return new One(kind, figure, lean, p);
        }
    }

    record State(List<One> men, int place, int swings, int crashes, int day, int blows) {
        State with(int m, One one) {
            List<One> others = new ArrayList<>(men);
            others.set(m, one);
            return new State(List.copyOf(others), place, swings, crashes, day, blows);
        }

        State more(One one) {
            List<One> others = new ArrayList<>(men);
            others.add(one);
            return new State(List.copyOf(others), place, swings, crashes, day, blows);
        }

        State hanging(int s, int p) {
            return new State(men, p, s, crashes, day, blows);
        }
    }

    private static final class Fault extends Exception {
        private static final long serialVersionUID = 1;
    }

    /** A shelf: null for nothing, a One for a kind, a Row for a row. */
    private record Row(int sort, long[] values) { }

    private State now = new State(List.of(), 0, 0, 0, 0, 0);
    private State image;
    private final Object[] shelves = new Object[8];

    // ---- kinds

    private static boolean isUnder(int kind, int above) {
        return kind == above || UNDER[kind] >= 0 && isUnder(UNDER[kind], above);
    }

    private static int toward(int from, int to, int most) {
        return Integer.signum(to - from) * Math.min(most, Math.abs(to - from));
    }

    private static int more(One o, int mean, int day) {
        if (o.propped) {
            return 0;
        }
        int away = (o.figure / 3 + 1) * (o.lean < 0 ? -1 : 1);
        return switch (o.kind) {
            case 0 -> toward(o.lean, mean, 1);
            case 1 -> 0;
            case 2 -> toward(o.lean, 0, 1);
            case 3 -> toward(o.lean, mean, 2);
            case 4 -> away;
            case 5 -> toward(o.lean, 0, 5);
            case 6 -> 2 * away;
            default -> day % 2 != 0 ? 0 : toward(o.lean, mean, 2);
        };
    }

    private static int within(One o) {
        return switch (o.kind) {
            case 0 -> 5;
            case 1 -> o.figure;
            case 2 -> 0;
            case 3, 7 -> 8;
            case 4, 6 -> 2 * o.figure;
            default -> 9;
        };
    }

    private static int discount(One o) {
        int l = Math.abs(o.lean);
        return switch (o.kind) {
            case 0, 3 -> l;
            case 1 -> l / 2;
            case 2 -> 2 * l;
            case 4 -> l / 2 + 3;
            case 7 -> l + o.figure;
            default -> 0;
        };
    }

    private static int price(One o) {
        return switch (o.kind) {
            case 0 -> 3;
            case 1 -> 3 + o.figure;
            case 2 -> 1;
            case 3 -> 2;
            case 4, 6 -> 2 * (3 + o.figure);
            case 7 -> 6;
            default -> 0;
        };
    }

    private static boolean isUpright(One o) {
        return Math.abs(o.lean) <= within(o);
    }

    // ---- days

    private static State dayOn(State s) {
        int n = s.men.size();
        int mean = n == 0 ? 0 : s.men.stream().mapToInt(One::lean).sum() / n;
        List<One> men = new ArrayList<>();
        for (One o : s.men) {
            int l = o.lean + more(o, mean, s.day + 1);
            men.add(o.leaning(l > 45 ? 45 : l < -45 ? -45 : l));
        }
        boolean crash = men.stream().filter(CityModel::isUpright).count() < n / 2;
        if (crash) {
            men.replaceAll(o -> o.propped ? o : o.leaning(-o.lean));
        }
        int swings = crash ? 9 : s.swings == 0 ? 0 : s.swings - 1;
        int place = s.place;
        if (n > 0 && swings > 0) {
            place = place + 1 >= n ? 0 : place + 1;
        } else if (n > 0) {
            int plumb = plumb(men);
            place += Integer.compare(plumb, place);
        }
        int crashes = crash ? Math.min(999, s.crashes + 1) : s.crashes;
        return new State(List.copyOf(men), place, swings, crashes, s.day + 1, s.blows + (crash ? 1 : 0));
    }

    private static State on(State s, int n) {
        State t = s;
        for (int i = 0; i < n; i++) {
            t = dayOn(t);
        }
        return t;
    }

    /** States behind 0, 1, .. n days. */
    private static List<State> courseOf(State s, int n) {
        List<State> course = new ArrayList<>(List.of(s));
        for (int i = 0; i < n; i++) {
            course.add(dayOn(course.get(i)));
        }
        return course;
    }

    private int first(int from, int to, Predicate<State> so) {
        List<State> course = courseOf(now, to);
        for (int n = from; n <= to; n++) {
            if (so.test(course.get(n))) {
                return n;
            }
        }
        return -4;
    }

    // ---- sets of men

    private static int bits(State s, Predicate<One> so) {
        int bits = 0;
        for (int m = 0; m < s.men.size(); m++) {
            bits += so.test(s.men.get(m)) ? 1 << m : 0;
        }
        return bits;
    }

    private static int uprightOnes(State s) {
        return Integer.bitCount(bits(s, CityModel::isUpright));
    }

    private static int plumb(List<One> men) {
        int best = -4;
        for (int m = men.size() - 1; m >= 0; m--) {
            if (best < 0 || Math.abs(men.get(m).lean) <= Math.abs(men.get(best).lean)) {
                best = m;
            }
        }
        return best;
    }

    private boolean trusts(int a, int b) {
        int x = now.men.get(a).lean;
        int y = now.men.get(b).lean;
        boolean side = x < 0 && y < 0 || x > 0 && y > 0 || x == 0 && y == 0;
        return a != b && side && Math.abs(y) - Math.abs(x) <= 10;
    }

    private int trustedBy(int m) {
        int bits = 0;
        for (int a = 0; a < men(); a++) {
            bits += trusts(a, m) ? 1 << a : 0;
        }
        return bits;
    }

    private int men() {
        return now.men.size();
    }

    /** Of sets of men those which are so: the one with the best figure, of several the least; -4. */
    private int bestSet(Predicate<Integer> so, ToIntFunction<Integer> figure) {
        int best = -4;
        for (int set = 0; set < 1 << men(); set++) {
            if (so.test(set) && (best < 0 || figure.applyAsInt(set) > figure.applyAsInt(best))) {
                best = set;
            }
        }
        return best;
    }

    /** Of the men the one with the greatest figure, of several the least; -4. */
    private int bestMan(ToIntFunction<Integer> figure) {
        int best = -4;
        for (int m = 0; m < men(); m++) {
            best = best < 0 || figure.applyAsInt(m) > figure.applyAsInt(best) ? m : best;
        }
        return best;
    }

    private List<Integer> leansOf(int set) {
        List<Integer> leans = new ArrayList<>();
        for (int m = 0; m < men(); m++) {
            if ((set >> m & 1) == 1) {
                leans.add(now.men.get(m).lean);
            }
        }
        return leans;
    }

    private boolean is(int m) {
        return 0 <= m && m < men();
    }

    private static boolean in(long n, long from, long to) {
        return from <= n && n <= to;
    }

    // ---- the calls, in the document's order

    long city(int d) {
        if (!in(d, 0, 7)) {
            return -1;
        }
        if (shelves[d] == null) {
            return -11;
        }
        if (!(shelves[d] instanceof Row row) || row.sort != 0) {
            return -12;
        }
        StringBuilder signs = new StringBuilder();
        for (long value : row.values) {
            signs.append((char) (value & 255));
        }
        String text = signs.toString();
        List<String> statements = new ArrayList<>();
        Matcher matcher = STATEMENT.matcher(text);
        int at = 0;
        while (at < text.length() && matcher.region(at, text.length()).lookingAt()) {
            statements.add(matcher.group());
            at = matcher.end();
        }
        if (at < text.length() || at == 0) {
            // the longest beginning that some statement still has tells where it goes wrong
            int good = at;
            while (good < text.length() && beginsStatement(text.substring(at, good + 1))) {
                good++;
            }
            return -1000 - good;
        }
        State before = now;
        int place = 0;
        for (String statement : statements) {
            try {
                take(statement);
            } catch (Fault fault) {
                now = before;
                return -2000 - place;
            }
            place += statement.length();
        }
        return statements.size();
    }

    private static boolean beginsStatement(String beginning) {
        for (String whole : new String[] {"m0000;", "l000;", "r0;", "w00;", "d00;"}) {
            String shape = beginning.replaceAll("[0-9]", "0");
            if (whole.startsWith(shape)) {
                return true;
            }
        }
        return false;
    }

    private void take(String statement) throws Fault {
        int number = Integer.parseInt(statement.substring(1, statement.length() - 1));
        switch (statement.charAt(0)) {
            case 'm':
                need(number / 1000 <= 7 && number % 100 <= 90 && men() < 8);
                now = now.more(new One(number / 1000, number / 100 % 10, number % 100 - 45, false));
                break;
            case 'l':
                need(is(number / 100) && number % 100 <= 90);
                pushes(number / 100, number % 100 - 45);
                break;
            case 'r':
                need(is(number));
                props(number);
                break;
            case 'w':
                need(number % 10 <= 7);
                hangs(number / 10, number % 10);
                break;
            default:
                need(in(number, 1, 60) && now.day + number <= 999);
                days(number);
                break;
        }
    }

    private static void need(boolean so) throws Fault {
        if (!so) {
            throw new Fault();
        }
    }

    long lean(int m) {
        return is(m) ? now.men.get(m).lean : REFUSED;
    }

    long man(int m, int what) {
        if (!is(m) || !in(what, 0, 5)) {
            return -1;
        }
        One o = now.men.get(m);
        return new int[] {o.kind, o.figure, o.propped ? 1 : 0, isUpright(o) ? 1 : 0, discount(o), trustedBy(m)}[what];
    }

    long comes(int d, int lean) {
        if (!in(d, 0, 7) || !in(lean, -45, 45)) {
            return -1;
        }
        if (shelves[d] == null) {
            return -11;
        }
        if (!(shelves[d] instanceof One one)) {
            return -12;
        }
        if (men() == 8) {
            return -2;
        }
        now = now.more(one.leaning(lean));
        return men() - 1;
    }

    long pushes(int m, int lean) {
        if (!is(m) || !in(lean, -45, 45)) {
            return REFUSED;
        }
        long old = lean(m);
        now = now.with(m, now.men.get(m).leaning(lean));
        return old;
    }

    long props(int m) {
        if (!is(m)) {
            return -1;
        }
        now = now.with(m, now.men.get(m).propped(!now.men.get(m).propped));
        return now.men.get(m).propped ? 1 : 0;
    }

    long hangs(int swings, int place) {
        if (!in(swings, 0, 9) || !in(place, 0, 7)) {
            return -1;
        }
        int old = 10 * now.swings + now.place;
        now = now.hanging(swings, place);
        return old;
    }

    long days(int n) {
        if (!in(n, 1, 60)) {
            return -1;
        }
        if (now.day + n > 999) {
            return -3;
        }
        now = on(now, n);
        return uprightOnes(now);
    }

    long leanThen(int m, int n) {
        return is(m) && in(n, 0, 60) ? on(now, n).men.get(m).lean : REFUSED;
    }

    long then(int n, int what) {
        if (!in(n, 0, 60) || !in(what, 0, 3)) {
            return -1;
        }
        State s = on(now, n);
        return new int[] {s.place, s.swings, s.crashes, bits(s, CityModel::isUpright)}[what];
    }

    long straight(int m) {
        return is(m) ? first(0, 60, s -> s.men.get(m).lean == 0) : -1;
    }

    long crash(int what) {
        if (what == 0) {
            return first(1, 60, s -> s.blows > now.blows);
        }
        return what == 1 ? first(0, 50, this::isStill) : -1;
    }

    private boolean isStill(State s) {
        return courseOf(s, 10).stream().allMatch(t -> {
            for (int m = 0; m < men(); m++) {
                if (t.men.get(m).lean != s.men.get(m).lean) {
                    return false;
                }
            }
            return true;
        });
    }

    long finds(int m) {
        return is(m) ? first(0, 60, s -> s.place == m) : -1;
    }

    long trust(int what) {
        switch (what) {
            case 0: return bestMan(m -> Integer.bitCount(trustedBy(m)));
            case 1:
                int rivals = 0;
                for (int a = 0; a < men(); a++) {
                    for (int b = a + 1; b < men(); b++) {
                        rivals += trusts(a, b) || trusts(b, a) ? 0 : 1;
                    }
                }
                return rivals;
            case 2: return plumb(now.men);
            case 3: return now.men.stream().filter(o -> o.lean > 0).count();
            case 4: return now.men.stream().mapToInt(CityModel::discount).sum();
            default: return -1;
        }
    }

    long tells(int m) {
        if (!is(m)) {
            return -1;
        }
        TreeSet<Integer> told = new TreeSet<>();
        tellOn(m, told);
        return told.stream().mapToInt(a -> 1 << a).sum();
    }

    private void tellOn(int m, TreeSet<Integer> told) {
        for (int a = 0; a < men(); a++) {
            if (trusts(a, m) && told.add(a)) {
                tellOn(a, told);
            }
        }
    }

    long fewestProps(int n) {
        if (!in(n, 1, 30)) {
            return -1;
        }
        return bestSet(set -> {
            State s = now;
            for (int m = 0; m < men(); m++) {
                if ((set >> m & 1) == 1) {
                    s = s.with(m, s.men.get(m).propped(true));
                }
            }
            return on(s, n).blows == now.blows;
        }, set -> -Integer.bitCount(set));
    }

    long push(int n) {
        if (!in(n, 0, 20)) {
            return -1;
        }
        int best = -4;
        int most = uprightOnes(on(now, n));
        for (int word = 0; word < 100 * men(); word++) {
            if (word % 100 <= 90) {
                State s = now.with(word / 100, now.men.get(word / 100).leaning(word % 100 - 45));
                int those = uprightOnes(on(s, n));
                best = those > most ? word : best;
                most = Math.max(most, those);
            }
        }
        return best;
    }

    long right(int what) {
        switch (what) {
            case 0: return bestMan(this::othersUprightFrom);
            case 1:
                int seated = Integer.bitCount(Math.max(0, bestSet(this::neverFall, Integer::bitCount)));
                return men() == 0 ? -4 : seated;
            case 2: return bestSet(set -> leansOf(set).stream().mapToInt(l -> l).sum() == 0, Integer::bitCount);
            default: return -1;
        }
    }

    private int othersUprightFrom(int zero) {
        int by = now.men.get(zero).lean;
        int others = 0;
        for (int m = 0; m < men(); m++) {
            One o = now.men.get(m);
            others += m != zero && isUpright(o.leaning(o.lean - by)) ? 1 : 0;
        }
        return others;
    }

    private boolean neverFall(int set) {
        List<Integer> leans = leansOf(set);
        return leans.equals(leans.stream().sorted().toList());
    }

    private long refusalOfRow(int d) {
        if (!in(d, 0, 7)) {
            return -1;
        }
        return shelves[d] == null ? -11 : shelves[d] instanceof Row ? 0 : -12;
    }

    private boolean tellsTrue(int d, State from, ToIntFunction<State> figure) {
        return firstUntrue(d, from, figure) == -4;
    }

    private int firstUntrue(int d, State from, ToIntFunction<State> figure) {
        Row row = (Row) shelves[d];
        long skipped = -(1L << (8 << row.sort) - 1);
        List<State> course = courseOf(from, row.values.length);
        for (int i = 0; i < row.values.length; i++) {
            if (row.values[i] != skipped && row.values[i] != figure.applyAsInt(course.get(i))) {
                return i;
            }
        }
        return -4;
    }

    long whatIs(int d, int m, int what) {
        if (!is(m) || !in(what, 0, 1) || refusalOfRow(d) == -1) {
            return -1;
        }
        if (refusalOfRow(d) != 0) {
            return refusalOfRow(d);
        }
        One o = now.men.get(m);
        int bits = 0;
        for (int i = 0; i < (what == 0 ? 8 : 10); i++) {
            One other = what == 0 ? new One(i, o.figure, o.lean, o.propped) : new One(o.kind, i, o.lean, o.propped);
            bits |= tellsTrue(d, now.with(m, other), s -> s.men.get(m).lean) ? 1 << i : 0;
        }
        return bits;
    }

    long whereHung(int d, int what) {
        if (!in(what, 0, 2) || refusalOfRow(d) == -1) {
            return -1;
        }
        if (refusalOfRow(d) != 0) {
            return refusalOfRow(d);
        }
        TreeSet<Integer> twos = new TreeSet<>();
        for (int word = 0; word < 100; word++) {
            if (word % 10 < 8 && tellsTrue(d, now.hanging(word / 10, word % 10), State::place)) {
                twos.add(word);
            }
        }
        if (what == 0) {
            return twos.size();
        }
        return twos.isEmpty() ? -4 : what == 1 ? twos.first() : twos.last();
    }

    long two(int a, int b, int n) {
        if (!is(a) || !is(b) || a == b || !in(n, 1, 30)) {
            return -1;
        }
        for (int x = 0; x < 2; x++) {
            for (int y = 0; y < 2; y++) {
                boolean settled = gain(a, x, b, y, n, true) >= gain(a, 1 - x, b, y, n, true)
                    && gain(a, x, b, y, n, false) >= gain(a, x, b, 1 - y, n, false);
                if (settled) {
                    return 10 * x + y;
                }
            }
        }
        return -4;
    }

    private int gain(int a, int x, int b, int y, int n, boolean ofA) {
        State s = now;
        s = x == 1 ? s.with(a, s.men.get(a).propped(true)) : s;
        s = y == 1 ? s.with(b, s.men.get(b).propped(true)) : s;
        s = on(s, n);
        int wish = isUpright(s.men.get(ofA ? a : b)) ? 6 : 0;
        return wish - 2 * (ofA ? x : y) - (s.blows - now.blows);
    }

    long shocks(int m, int n, int t, int part) {
        if (!is(m) || !in(n, 0, 7) || !in(t, 2, 20) || !in(part, 0, 1)) {
            return REFUSED;
        }
        return leastTerms(uprightWays(now, m, n, t), BigInteger.valueOf(t).pow(n), part);
    }

    private static BigInteger uprightWays(State s, int m, int n, int t) {
        if (n == 0) {
            return isUpright(s.men.get(m)) ? BigInteger.ONE : BigInteger.ZERO;
        }
        State shocked = s;
        for (int i = 0; i < s.men.size(); i++) {
            One o = s.men.get(i);
            shocked = o.propped ? shocked : shocked.with(i, o.leaning(-o.lean));
        }
        return uprightWays(dayOn(shocked), m, n - 1, t)
            .add(uprightWays(dayOn(s), m, n - 1, t).multiply(BigInteger.valueOf(t - 1)));
    }

    private static long leastTerms(BigInteger above, BigInteger below, int part) {
        BigInteger by = above.gcd(below);
        return (part == 0 ? above : below).divide(by).longValueExact();
    }

    long mean(int part) {
        if (!in(part, 0, 1)) {
            return REFUSED;
        }
        if (men() == 0) {
            return part;
        }
        long sum = now.men.stream().mapToLong(o -> o.lean + 45).sum();
        return leastTerms(BigInteger.valueOf(sum), BigInteger.valueOf(men()), part);
    }

    long forged(int d) {
        if (refusalOfRow(d) != 0) {
            return refusalOfRow(d);
        }
        long[] values = ((Row) shelves[d]).values;
        for (int m = 0; m < values.length; m++) {
            if (values[m] != lean(m) || !is(m)) {
                return m;
            }
        }
        return -4;
    }

    long judge(int d) {
        return refusalOfRow(d) != 0 ? refusalOfRow(d) : firstUntrue(d, now, CityModel::uprightOnes);
    }

    long years(int n, int z, int what) {
        if (!in(n, 1, 20) || !in(what, 0, 1)) {
            return -1;
        }
        long seed = z & 0xffffffffL;
        int sum = 0;
        for (int year = 0; year < n; year++) {
            State s = now;
            for (int m = 0; m < men(); m++) {
                seed = (seed * 1103515245L + 12345L) % (1L << 32);
                s = s.with(m, s.men.get(m).leaning((int) (seed % (1L << 31) / 65536 % 91) - 45));
            }
            s = on(s, 12);
            sum += what == 0 ? uprightOnes(s) : s.crashes - now.crashes;
        }
        return sum;
    }

    long image() {
        image = now;
        return now.day;
    }

    long restore() {
        now = image == null ? now : image;
        return image == null ? -3 : now.day;
    }

    long count(int what) {
        if (!in(what, 0, 6)) {
            return -1;
        }
        return new int[] {men(), now.day, now.place, now.swings, now.crashes,
            bits(now, CityModel::isUpright), bits(now, One::propped)}[what];
    }

    long keep(int d, int what, int k, int figure) {
        if (!in(d, 0, 7) || !in(what, 0, 1) || what == 1 && (!in(k, 0, 7) || !in(figure, 0, 9))) {
            return -1;
        }
        shelves[d] = what == 0 ? null : new One(k, figure, 0, false);
        return 0;
    }

    long row(int d, int sort, int n) {
        if (!in(d, 0, 7) || !in(sort, 0, 2) || n > 100) {
            return -1;
        }
        if (n < 0) {
            return -14;
        }
        shelves[d] = new Row(sort, new long[n]);
        return 0;
    }

    long put(int d, int i, int v) {
        if (refusalOfRow(d) != 0) {
            return refusalOfRow(d);
        }
        Row row = (Row) shelves[d];
        if (!in(i, 0, row.values.length - 1)) {
            return -13;
        }
        int spare = 64 - (8 << row.sort);
        row.values[i] = (long) v << spare >> spare;
        return 0;
    }

    /** The element, or for the exception that is due 1 above all ints or 2 above them. */
    long element(int d, int i) {
        if (!in(d, 0, 7)) {
            return Integer.MAX_VALUE + 1L;
        }
        if (!(shelves[d] instanceof Row row) || !in(i, 0, row.values.length - 1)) {
            return Integer.MAX_VALUE + 2L;
        }
        return row.values[i];
    }

    long copy(int d, int i, int e, int j, int n) {
        if (!in(d, 0, 7) || !in(e, 0, 7)) {
            return -1;
        }
        if (shelves[d] == null || shelves[e] == null) {
            return -11;
        }
        if (!(shelves[d] instanceof Row from) || !(shelves[e] instanceof Row to) || from.sort != to.sort) {
            return -12;
        }
        if (i < 0 || j < 0 || n < 0 || (long) i + n > from.values.length || (long) j + n > to.values.length) {
            return -13;
        }
        long[] taken = from.values.clone();
        for (int a = 0; a < n; a++) {
            to.values[j + a] = taken[i + a];
        }
        return n;
    }

    private long refusalOfKind(int d) {
        if (!in(d, 0, 7)) {
            return -1;
        }
        return shelves[d] == null ? -11 : shelves[d] instanceof One ? 0 : -12;
    }

    long cost(int d) {
        return refusalOfKind(d) != 0 ? refusalOfKind(d) : price((One) shelves[d]);
    }

    long toss(int d) {
        if (refusalOfKind(d) != 0) {
            return refusalOfKind(d);
        }
        One o = (One) shelves[d];
        if (isUnder(o.kind, 2) || o.figure == 0) {
            return -15;
        }
        if (isUnder(o.kind, 6)) {
            return 200 + price(o);
        }
        return o.figure + (isUnder(o.kind, 1) ? 100 : 0);
    }
}
