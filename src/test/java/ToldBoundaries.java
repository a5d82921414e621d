import java.util.function.Supplier;

/** Promises 20 to 27: what rows tell, two who choose, odds, shares, and years by seeds. */
final class ToldBoundaries {
    private static final String SEVERAL = "Answers of several REFUSALS are the first one as they are told at the call.";
    private static final String WHAT_HE_DID = "WHAT HE DID: a ROW tells LEAN of one behind 0, 1, .. DAYS (the least number of "
        + "the SORT is skipped): KINDS (bits) of him by which all of it is so; FIGURES (bits 0 .. 9).";
    private static final String WHERE_IT_HUNG = "WHERE IT HUNG: a ROW tells where THE LEAD is behind 0, 1, .. DAYS (skipped "
        + "likewise): how many of all twos of SWINGS (0 .. 9) and PLACE (0 .. 7) make it so; the least; the greatest (10 SWINGS "
        + "and PLACE; -4).";
    private static final int[] LEASTS = {-128, -32768, Integer.MIN_VALUE};
    private static final int REST = 0b10100110;

    private ToldBoundaries() { }

    static void all() {
        Boundary.test(20, "`int whatIs(int d, int m, int what)`: WHAT HE DID by the ROW in SHELF d: KINDS (what 0), FIGURES (1), "
            + "bits. -1, -11, -12 (no ROW).", ToldBoundaries::whatIsRefused);
        Boundary.test(20, WHAT_HE_DID, ToldBoundaries::whatHeDid);
        Boundary.test(20, SEVERAL, ToldBoundaries::whatIsRefusedFirst);
        Boundary.test(21, "`int whereHung(int d, int what)`: WHERE IT HUNG by the ROW in SHELF d: how many (what 0), the least (1; "
            + "-4), the greatest (2; -4). -1, -11, -12.", ToldBoundaries::whereHungRefused);
        Boundary.test(21, WHERE_IT_HUNG, ToldBoundaries::whereItHung);
        Boundary.test(21, SEVERAL, ToldBoundaries::whereHungRefusedFirst);
        Boundary.test(22, "`int two(int a, int b, int n)`: TWO; -4. -1 (one twice).", ToldBoundaries::twoRefused);
        Boundary.test(22, "TWO men, each is PROPPED from now (1) or as he is (0): each wants to be UPRIGHT behind n DAYS (1 .. 30; "
            + "6), 2 less for choosing 1 (not for being PROPPED already), 1 less for each CRASH more: the first pair (10 the "
            + "one's and the other's) by which neither has more by another choice alone; -4.", ToldBoundaries::two);
        Boundary.test(22, "CRASHES are 1 more (999 at most),", ToldBoundaries::twoAtMostCrashes);
        Boundary.test(23, "`long shocks(int m, int n, int t, int part)`: SHOCKS; part 0 above, 1 below the line. Refused as told: "
            + "-1.", ToldBoundaries::shocksRefused);
        Boundary.test(23, "SHOCKS: on each of n DAYS (0 .. 7), by itself, ahead of it, all not PROPPED have the other sign with odds "
            + "1 in t (2 .. 20): how likely one is UPRIGHT behind these: a fraction in least terms.", ToldBoundaries::shocks);
        Boundary.test(24, "`long mean(int part)`: MEAN of LEANS; part likewise. Refused as told: -1.", ToldBoundaries::meanRefused);
        Boundary.test(24, "MEAN of LEANS, 45 added to each: a fraction in least terms (0 by 1 of nobody).", ToldBoundaries::mean);
        Boundary.test(25, "`int forged(int d)`: FORGED by the ROW in SHELF d; -4. -1, -11, -12.", ToldBoundaries::forgedRefused);
        Boundary.test(25, "FORGED: a ROW tells LEANS of men 0, 1, ..: the first that is not so (no such man, too); -4.",
            ToldBoundaries::forged);
        Boundary.test(26, "`int judge(int d)`: JUDGED by the ROW in SHELF d; -4. -1, -11, -12.", ToldBoundaries::judgeRefused);
        Boundary.test(26, "JUDGED: a ROW tells how many are UPRIGHT behind 0, 1, .. DAYS: the first that is not so (skipped "
            + "likewise); -4.", ToldBoundaries::judged);
        Boundary.test(27, "`int years(int n, int z, int what)`: YEARS: UPRIGHT ones (what 0), CRASHES (1). -1.",
            ToldBoundaries::yearsRefused);
        Boundary.test(27, "YEARS with a seed z: n (1 .. 20), each from now: LEAN of each, by numbers, a DRAW below 91, less 45, then "
            + "12 DAYS: UPRIGHT ones together; CRASHES more, together.", ToldBoundaries::years);
        Boundary.test(27, "A DRAW below n: z becomes z times 1103515245 plus 12345 (an int); (z without its sign's bit over 65536, "
            + "cut) modulo n.", ToldBoundaries::draws);
        Boundary.test(27, "CRASHES are 1 more (999 at most),", ToldBoundaries::yearsAtMostCrashes);
    }

    /** A row of this length whose elements are all the least number of the sort. */
    private static int[] skips(int sort, int length) {
        int[] values = new int[length];
        java.util.Arrays.fill(values, LEASTS[sort]);
        return values;
    }

    // ---- promise 20

    private static void whatIsRefused() {
        for (int what = 0; what <= 1; what++) {
            int asked = what;
            Boundary.range(Boundary::busy, "whatIs(1, ?, " + what + ")", -1, (x, m) -> x.whatIs(1, m, asked), 0, 4);
            Boundary.refusedEach(Boundary::busy, "whatIs(?, 0, " + what + ")", -1, (x, d) -> x.whatIs(d, 0, asked),
                Boundary.MIN, -1, 8, 257, Boundary.MAX);
            Boundary.refused(Boundary::busy, "whatIs of nothing", -11, x -> x.whatIs(5, 0, asked));
            Boundary.refusedEach(Boundary::busy, "whatIs(?, 0, " + what + "), no ROW", -12, (x, d) -> x.whatIs(d, 0, asked), 4, 7);
        }
        Boundary.range(Boundary::busy, "whatIs(3, 0, ?)", -1, (x, what) -> x.whatIs(3, 0, what), 0, 1);
        Boundary.refused(() -> Boundary.shelve(new PlumbLine(), 0, 0, 1), "whatIs(0, 0, 0) of nobody", -1, x -> x.whatIs(0, 0, 0));
    }

    private static int kindsBy(PlumbLine x, int sort, int... values) {
        return Boundary.shelve(x, 1, sort, values).whatIs(1, 0, 0);
    }

    private static int figuresBy(PlumbLine x, int sort, int... values) {
        return Boundary.shelve(x, 1, sort, values).whatIs(1, 0, 1);
    }

    /** With FIGURE 3 and a mean of 10: MAN 1, CLERK and BROKER 2, SWINDLER 4, PARTNER 0 and then 2, the others rest. */
    private static PlumbLine restless() {
        return Boundary.men(0, 3, 0, 1, 9, 20);
    }

    private static void whatHeDid() {
        for (int sort = 0; sort <= 2; sort++) {
            int least = LEASTS[sort];
            Boundary.due("none told", kindsBy(restless(), sort), 255);
            Boundary.due("0 now", kindsBy(restless(), sort, 0), 255);
            Boundary.due("1 now", kindsBy(restless(), sort, 1), 0);
            Boundary.due("-1 now", kindsBy(restless(), sort, -1), 0);
            Boundary.due("the least number now", kindsBy(restless(), sort, least), 255);
            Boundary.due("one more than the least", kindsBy(restless(), sort, least + 1), 0);
            Boundary.due("one less, which is the greatest", kindsBy(restless(), sort, least - 1), 0);
            Boundary.due("0, 1", kindsBy(restless(), sort, 0, 1), 0b00000001);
            Boundary.due("0, 0", kindsBy(restless(), sort, 0, 0), REST);
            Boundary.due("0, 2", kindsBy(restless(), sort, 0, 2), 0b00011000);
            Boundary.due("skipped, 4", kindsBy(restless(), sort, least, 4), 0b01000000);
            Boundary.due("0, skipped, 2", kindsBy(restless(), sort, 0, least, 2), 0b10000001);
            Boundary.due("0, one more than the least, 2", kindsBy(restless(), sort, 0, least + 1, 2), 0);
            Boundary.due("all skipped", kindsBy(restless(), sort, skips(sort, 100)), 255);
            Boundary.due("FIGURES, none told", figuresBy(restless(), sort), 1023);
            Boundary.due("FIGURES, all skipped", figuresBy(restless(), sort, skips(sort, 100)), 1023);
            Boundary.due("FIGURES, one more than the least", figuresBy(restless(), sort, least + 1), 0);
        }
        Boundary.due("the least of bytes among shorts", kindsBy(restless(), 1, 0, -128, 2), 0);
        Boundary.due("the least of shorts among ints", kindsBy(restless(), 2, 0, -32768, 2), 0);
        // alone he is the mean; a hundredth element tells of 99 DAYS on
        int[] hundred = skips(2, 100);
        hundred[99] = 45;
        Boundary.due("45 behind 99 DAYS", kindsBy(Boundary.men(0, 9, 45), 2, hundred), 0b11011011);
        hundred[99] = 0;
        Boundary.due("0 behind 99 DAYS", kindsBy(Boundary.men(0, 9, 45), 2, hundred), 0b00100100);
        hundred[44] = 1;
        hundred[45] = 0;
        Boundary.due("1 behind 44, 0 behind 45", kindsBy(Boundary.men(0, 9, 45), 2, hundred), 0b00000100);
        hundred[45] = 1;
        Boundary.due("1 behind 45", kindsBy(Boundary.men(0, 9, 45), 2, hundred), 0);
        figuresByEdges();
    }

    private static void figuresByEdges() {
        PlumbLine broker = Boundary.men(4, 0, 10);
        int[] steps = {0, 1, 2, 3, 4, 5};
        int[] figures = {0, 0b0000000111, 0b0000111000, 0b0111000000, 0b1000000000, 0};
        for (int i = 0; i < steps.length; i++) {
            Boundary.due("a step of " + steps[i], figuresBy(broker, 0, 10, 10 + steps[i]), figures[i]);
        }
        Boundary.due("FIGURE stays", broker.man(0, 1), 0);
        Boundary.due("KIND stays", broker.man(0, 0), 4);
        Boundary.due("all FIGURES of a MAN", figuresBy(Boundary.men(0, 5, 7), 0, 7, 7, 7), 1023);
        PlumbLine propped = Boundary.men(4, 3, 7);
        propped.props(0);
        Boundary.due("all FIGURES of a PROPPED one", figuresBy(propped, 0, 7, 7), 1023);
        Boundary.due("all KINDS of a PROPPED one", kindsBy(propped, 0, 7, 7), 255);
    }

    private static void whatIsRefusedFirst() {
        Boundary.refused(Boundary::busy, "whatIs(8, 0, 0)", -1, x -> x.whatIs(8, 0, 0));
        Boundary.refused(Boundary::busy, "whatIs(5, 5, 0): -1 ahead of -11", -1, x -> x.whatIs(5, 5, 0));
        Boundary.refused(Boundary::busy, "whatIs(5, 0, 2): -1 ahead of -11", -1, x -> x.whatIs(5, 0, 2));
        Boundary.refused(Boundary::busy, "whatIs(4, -1, 0): -1 ahead of -12", -1, x -> x.whatIs(4, -1, 0));
        Boundary.refused(Boundary::busy, "whatIs(4, 0, -1): -1 ahead of -12", -1, x -> x.whatIs(4, 0, -1));
    }

    // ---- promise 21

    private static void whereHungRefused() {
        for (int d : new int[] {0, 1, 2, 3, 6}) {
            Boundary.range(Boundary::busy, "whereHung(" + d + ", ?)", -1, (x, what) -> x.whereHung(d, what), 0, 2);
        }
        for (int what = 0; what <= 2; what++) {
            int asked = what;
            Boundary.refusedEach(Boundary::busy, "whereHung(?, " + what + ")", -1, (x, d) -> x.whereHung(d, asked),
                Boundary.MIN, -1, 8, 257, Boundary.MAX);
            Boundary.refused(Boundary::busy, "whereHung of nothing", -11, x -> x.whereHung(5, asked));
            Boundary.refusedEach(Boundary::busy, "whereHung(?, " + what + "), no ROW", -12, (x, d) -> x.whereHung(d, asked), 4, 7);
        }
    }

    /** By three who are all upright: without a swing the lead comes nearer to 0, with some it goes on. */
    private static void hung(int howMany, int least, int greatest, int sort, int... values) {
        PlumbLine x = Boundary.shelve(Boundary.men(1, 9, 0, 1, 9, 1, 1, 9, 1), 1, sort, values);
        String row = java.util.Arrays.toString(java.util.Arrays.copyOf(values, Math.min(values.length, 4)));
        Boundary.due("how many by " + row, x.whereHung(1, 0), howMany);
        Boundary.due("the least by " + row, x.whereHung(1, 1), least);
        Boundary.due("the greatest by " + row, x.whereHung(1, 2), greatest);
    }

    private static void whereItHung() {
        for (int sort = 0; sort <= 2; sort++) {
            int skip = LEASTS[sort];
            hung(80, 0, 97, sort);
            hung(80, 0, 97, sort, skip);
            hung(80, 0, 97, sort, skips(sort, 100));
            hung(0, -4, -4, sort, skip + 1);
            hung(10, 0, 90, sort, 0);
            hung(10, 7, 97, sort, 7);
            hung(0, -4, -4, sort, 8);
            hung(0, -4, -4, sort, -1);
            hung(8, 21, 91, sort, 1, 2);
            hung(2, 1, 11, sort, 1, 0);
            hung(1, 21, 21, sort, 1, 2, 1);
            hung(10, 3, 91, sort, skip, 2);
            hung(2, 7, 17, sort, 7, 6);
            hung(0, -4, -4, sort, 7, 7);
        }
        int[] hundred = skips(1, 100);
        hundred[99] = 0;
        hung(80, 0, 97, 1, hundred);
        hundred[99] = 1;
        hung(0, -4, -4, 1, hundred);
        PlumbLine x = Boundary.busy();
        x.whereHung(6, 0);
        Boundary.due("SWINGS and PLACE stay", x.hangs(0, 0), 45);
        PlumbLine nobody = Boundary.shelve(new PlumbLine(), 0, 0, 5, 5, 5);
        Boundary.due("how many, without men", nobody.whereHung(0, 0), 10);
    }

    private static void whereHungRefusedFirst() {
        Boundary.refused(Boundary::busy, "whereHung(5, 3): -1 ahead of -11", -1, x -> x.whereHung(5, 3));
        Boundary.refused(Boundary::busy, "whereHung(5, -1): -1 ahead of -11", -1, x -> x.whereHung(5, -1));
        Boundary.refused(Boundary::busy, "whereHung(4, 3): -1 ahead of -12", -1, x -> x.whereHung(4, 3));
        Boundary.refused(Boundary::busy, "whereHung(7, -1): -1 ahead of -12", -1, x -> x.whereHung(7, -1));
    }

    // ---- promise 22

    private static void twoRefused() {
        Boundary.range(Boundary::busy, "two(?, 1, 5)", -1, (x, a) -> x.two(a == 1 ? 0 : a, 1, 5), 0, 4);
        Boundary.range(Boundary::busy, "two(1, ?, 5)", -1, (x, b) -> x.two(1, b == 1 ? 0 : b, 5), 0, 4);
        Boundary.range(Boundary::busy, "two(0, 4, ?)", -1, (x, n) -> x.two(0, 4, n), 1, 30);
        for (int m = 0; m < 5; m++) {
            int one = m;
            Boundary.refused(Boundary::busy, "two(" + m + ", " + m + ", 5), one twice", -1, x -> x.two(one, one, 5));
        }
        Boundary.refused(PlumbLine::new, "two(0, 1, 1)", -1, x -> x.two(0, 1, 1));
        Boundary.refused(() -> Boundary.men(0, 0, 0), "two(0, 1, 1)", -1, x -> x.two(0, 1, 1));
        Boundary.due("the last two of eight", Boundary.full().two(7, 6, 1) != -1 ? 1 : 0, 1);
    }

    private static void twoBehind(Supplier<PlumbLine> made, int n, int want) {
        Boundary.due("two(0, 1, " + n + ")", made.get().two(0, 1, n), want);
        Boundary.due("two(1, 0, " + n + ")", made.get().two(1, 0, n), want / 10 + want % 10 * 10);
    }

    private static void two() {
        // the first leaves his 5 on that day, with a crash; PROPPED he has 6 less 2
        for (int d = 14; d <= 30; d++) {
            int day = d;
            twoBehind(() -> Boundary.leavingOn(day), d - 1, 0);
            twoBehind(() -> Boundary.leavingOn(day), d, 10);
        }
        twoBehind(() -> Boundary.leavingOn(31), 30, 0);
        twoBehind(() -> Boundary.leavingOn(30), 29, 0);
        // brokers of 3 who leave 6 at once: 0 less the crash, or 4 by a prop
        twoBehind(() -> Boundary.men(4, 3, 6, 4, 3, 6), 1, 11);
        twoBehind(() -> Boundary.men(4, 3, 4, 4, 3, 4), 1, 0);
        twoBehind(() -> Boundary.men(4, 3, 4, 4, 3, 4), 2, 11);
        PlumbLine lost = Boundary.crashing(0);
        Boundary.due("lost in any way", lost.two(0, 1, 30), 0);
        lost.props(0);
        lost.props(1);
        Boundary.due("PROPPED already, none pays for it", lost.two(0, 1, 30), 0);
        PlumbLine already = Boundary.men(4, 3, 6, 4, 3, 6);
        already.props(1);
        Boundary.due("the other is PROPPED already", already.two(0, 1, 1), 10);
        already.props(0);
        Boundary.due("both are PROPPED already", already.two(0, 1, 1), 0);
        Boundary.due("PROPPED stays", already.count(6), 3);
        Boundary.due("no pair", Boundary.told("m3250;m3746;m4953;m7459;r3;w70;").two(0, 1, 4), -4);
        // the QUAKER is upright behind 16, with 9 CRASHES: 6 less 9; PROPPED never, with 1: less 2 and 1, which is not more
        twoBehind(() -> Boundary.men(7, 2, 10, 2, 3, 16), 15, 1);
        twoBehind(() -> Boundary.men(7, 2, 10, 2, 3, 16), 16, 0);
        // the MAN is upright in any way; the QUAKER has 6 less 10 CRASHES, or by a prop 2 less for it and 2 for CRASHES
        Boundary.due("two(0, 1, 16) by a MAN", Boundary.men(0, 6, 4, 2, 3, 16).two(0, 1, 16), 1);
        Boundary.due("two(1, 0, 16) by a QUAKER", Boundary.men(0, 6, 4, 2, 3, 16).two(1, 0, 16), 1);
        twoAsPlayed();
    }

    /** Many cities, by numbers drawn: each pair is played on a city of its own. */
    private static void twoAsPlayed() {
        java.util.Random random = new java.util.Random(22);
        for (int city = 0; city < 400; city++) {
            int[] men = new int[6 + 3 * random.nextInt(3)];
            for (int i = 0; i < men.length; i += 3) {
                men[i] = random.nextInt(8);
                men[i + 1] = random.nextInt(10);
                men[i + 2] = random.nextInt(91) - 45;
            }
            int bits = random.nextInt(4) == 0 ? random.nextInt(4) : 0;
            Supplier<PlumbLine> made = () -> propped(Boundary.men(men), setOf(bits));
            for (int n : new int[] {1, 2, 10 + random.nextInt(18), 29, 30}) {
                String of = java.util.Arrays.toString(men) + ", " + bits + " PROPPED";
                Boundary.due("two(0, 1, " + n + ") by " + of, made.get().two(0, 1, n), playedPair(made, n));
            }
        }
    }

    private static int[] setOf(int bits) {
        return bits == 0 ? new int[0] : bits == 3 ? new int[] {0, 1} : new int[] {bits - 1};
    }

    /** The first of the pairs 00, 01, 10, 11 by which neither has more by another choice alone. */
    private static int playedPair(Supplier<PlumbLine> made, int n) {
        int[][] has = new int[4][2];
        for (int pair = 0; pair < 4; pair++) {
            PlumbLine x = made.get();
            for (int one = 0; one <= 1; one++) {
                boolean chooses = (one == 0 ? pair / 2 : pair % 2) == 1;
                if (chooses && x.man(one, 2) == 0) {
                    x.props(one);
                }
                has[pair][one] -= chooses ? 2 : 0;
            }
            x.days(n);
            for (int one = 0; one <= 1; one++) {
                has[pair][one] += (x.man(one, 3) == 1 ? 6 : 0) - x.count(4);
            }
        }
        for (int pair = 0; pair < 4; pair++) {
            if (has[pair][0] >= has[(pair + 2) % 4][0] && has[pair][1] >= has[pair % 2 == 0 ? pair + 1 : pair - 1][1]) {
                return 10 * (pair / 2) + pair % 2;
            }
        }
        return -4;
    }

    private static void twoAtMostCrashes() {
        // a man at 5 by a mean far in the east: on days 1, 13, 25 he is at 6, with a crash, and a day later at -5
        int[] days = {12, 14, 24, 25, 26};
        int[] pairs = {0, 0, 0, 10, 10};
        for (int crashes : new int[] {1, 995, 996, 997, 998, 999}) {
            PlumbLine x = propped(Boundary.men(0, 0, 45, 1, 0, 45), 0, 1);
            Boundary.pass(x, crashes);
            x.props(0);
            x.pushes(0, 5);
            Boundary.due("CRASHES", x.count(4), crashes);
            for (int i = 0; i < days.length; i++) {
                Boundary.due("two(0, 1, " + days[i] + ") at " + crashes, x.two(0, 1, days[i]), pairs[i]);
                Boundary.due("two(1, 0, " + days[i] + ") at " + crashes, x.two(1, 0, days[i]), pairs[i] / 10);
            }
        }
    }

    // ---- promise 23

    private static void shocksRefused() {
        for (int part = 0; part <= 1; part++) {
            int asked = part;
            Boundary.range(Boundary::busy, "shocks(?, 3, 5, " + part + ")", Boundary.LEAN_REFUSED,
                (x, m) -> x.shocks(m, 3, 5, asked), 0, 4);
            Boundary.range(Boundary::busy, "shocks(2, ?, 5, " + part + ")", Boundary.LEAN_REFUSED,
                (x, n) -> x.shocks(2, n, 5, asked), 0, 7);
            Boundary.range(Boundary::busy, "shocks(2, 3, ?, " + part + ")", Boundary.LEAN_REFUSED,
                (x, t) -> x.shocks(2, 3, t, asked), 2, 20);
            Boundary.range(Boundary::busy, "shocks(2, 0, ?, " + part + ")", Boundary.LEAN_REFUSED,
                (x, t) -> x.shocks(2, 0, t, asked), 2, 20);
        }
        Boundary.range(Boundary::busy, "shocks(2, 7, 20, ?)", Boundary.LEAN_REFUSED, (x, part) -> x.shocks(2, 7, 20, part), 0, 1);
        Boundary.range(Boundary::full, "shocks(?, 0, 2, 0)", Boundary.LEAN_REFUSED, (x, m) -> x.shocks(m, 0, 2, 0), 0, 7);
        Boundary.refused(PlumbLine::new, "shocks(0, 0, 2, 0)", Boundary.LEAN_REFUSED, x -> x.shocks(0, 0, 2, 0));
    }

    private static void likely(PlumbLine x, int m, int n, int t, long above, long below) {
        String of = "shocks(" + m + ", " + n + ", " + t + ", .) ";
        Boundary.due(of + "above", x.shocks(m, n, t, 0), above);
        Boundary.due(of + "below", x.shocks(m, n, t, 1), below);
    }

    private static void shocks() {
        for (int t = 2; t <= 20; t++) {
            for (int n = 0; n <= 7; n++) {
                likely(Boundary.men(2, 0, n), 0, n, t, 1, 1);
                likely(Boundary.men(2, 0, n + 1), 0, n, t, 0, 1);
            }
            // from 6 a man stays there by a mean of 6; from -6 he goes to -5 by one of 2
            likely(Boundary.men(0, 0, 6, 1, 0, 6, 1, 9, 6), 0, 0, t, 0, 1);
            likely(propped(Boundary.men(0, 0, 6, 1, 0, 6, 1, 9, 6), 1, 2), 0, 1, t, 1, t);
        }
        // of two: 4 and the mean of it, or turned; each way gone through by itself
        for (int n = 0; n <= 7; n++) {
            for (int t : new int[] {2, 3, 19, 20}) {
                goneThrough(n, t);
            }
        }
    }

    private static PlumbLine propped(PlumbLine x, int... men) {
        for (int m : men) {
            x.props(m);
        }
        return x;
    }

    private static PlumbLine shaken() {
        return propped(Boundary.men(0, 0, 2, 1, 0, 44, 4, 1, -9, 3, 0, 30, 1, 0, 9), 1);
    }

    /** Each way of shocks on a city of its own, by pushes and days. */
    private static void goneThrough(int n, int t) {
        long[] ways = new long[5];
        long all = 1;
        for (int i = 0; i < n; i++) {
            all *= t;
        }
        for (int shocked = 0; shocked < 1 << n; shocked++) {
            PlumbLine x = shaken();
            long weight = 1;
            for (int i = 0; i < n; i++) {
                boolean shock = (shocked >> i & 1) == 1;
                weight *= shock ? 1 : t - 1;
                for (int m = 0; shock && m < 5; m++) {
                    x.pushes(m, x.man(m, 2) == 1 ? x.lean(m) : -x.lean(m));
                }
                x.days(1);
            }
            for (int m = 0; m < 5; m++) {
                ways[m] += x.man(m, 3) * weight;
            }
        }
        for (int m = 0; m < 5; m++) {
            long by = java.math.BigInteger.valueOf(ways[m]).gcd(java.math.BigInteger.valueOf(all)).longValue();
            likely(shaken(), m, n, t, ways[m] / by, all / by);
        }
    }

    // ---- promise 24

    private static void meanRefused() {
        Boundary.range(Boundary::busy, "mean(?)", Boundary.LEAN_REFUSED, PlumbLine::mean, 0, 1);
        Boundary.range(PlumbLine::new, "mean(?)", Boundary.LEAN_REFUSED, PlumbLine::mean, 0, 1);
    }

    private static void meanIs(long above, long below, int... leans) {
        PlumbLine x = new PlumbLine();
        for (int lean : leans) {
            Boundary.come(x, 0, 0, lean);
        }
        Boundary.due("mean(0) of " + java.util.Arrays.toString(leans), x.mean(0), above);
        Boundary.due("mean(1) of " + java.util.Arrays.toString(leans), x.mean(1), below);
    }

    private static void mean() {
        meanIs(0, 1);
        meanIs(0, 1, -45);
        meanIs(1, 1, -44);
        meanIs(90, 1, 45);
        meanIs(0, 1, -45, -45, -45, -45, -45, -45, -45, -45);
        meanIs(1, 8, -45, -45, -45, -45, -45, -45, -45, -44);
        meanIs(1, 4, -45, -45, -45, -45, -45, -45, -45, -43);
        meanIs(719, 8, 45, 45, 45, 45, 45, 45, 45, 44);
        meanIs(90, 1, 45, 45, 45, 45, 45, 45, 45, 45);
        meanIs(89, 2, 0, -1);
        meanIs(45, 1, -1, 0, 1);
        meanIs(136, 3, 0, 0, 1);
    }

    // ---- promises 25 and 26

    private static void forgedRefused() {
        Boundary.refusedEach(Boundary::busy, "forged(?)", -1, PlumbLine::forged, Boundary.MIN, -1, 8, 257, Boundary.MAX);
        Boundary.refused(Boundary::busy, "forged of nothing", -11, x -> x.forged(5));
        Boundary.refusedEach(Boundary::busy, "forged(?), no ROW", -12, PlumbLine::forged, 4, 7);
        Boundary.refused(PlumbLine::new, "forged of nothing", -11, x -> x.forged(0));
    }

    private static void forgedBy(int want, PlumbLine x, int... values) {
        for (int sort = 0; sort <= 2; sort++) {
            Boundary.due("forged by " + java.util.Arrays.toString(values), Boundary.shelve(x, 1, sort, values).forged(1), want);
        }
    }

    private static void forged() {
        PlumbLine x = Boundary.men(0, 0, -45, 0, 0, 45, 0, 0, 0);
        forgedBy(-4, x);
        forgedBy(-4, x, -45);
        forgedBy(-4, x, -45, 45);
        forgedBy(-4, x, -45, 45, 0);
        forgedBy(3, x, -45, 45, 0, 0);
        forgedBy(0, x, -44, 45, 0);
        forgedBy(0, x, -46, 44, 0);
        forgedBy(1, x, -45, 44, 0);
        forgedBy(1, x, -45, 46, 1);
        forgedBy(2, x, -45, 45, 1);
        forgedBy(2, x, -45, 45, -1, 0);
        forgedBy(0, x, -128, 45, 0);
        forgedBy(-4, new PlumbLine());
        forgedBy(0, new PlumbLine(), 0);
        forgedBy(-4, Boundary.full(), -45, 45, 0, 7, -8, 12, 1, -1);
        forgedBy(8, Boundary.full(), -45, 45, 0, 7, -8, 12, 1, -1, 0);
        forgedBy(7, Boundary.full(), -45, 45, 0, 7, -8, 12, 1, 1);
        int[] hundred = new int[100];
        forgedBy(3, Boundary.men(0, 0, 0, 0, 0, 0, 0, 0, 0), hundred);
        for (int sort = 0; sort <= 2; sort++) {
            Boundary.due("nothing is skipped", Boundary.shelve(x, 1, sort, LEASTS[sort]).forged(1), 0);
        }
    }

    private static void judgeRefused() {
        Boundary.refusedEach(Boundary::busy, "judge(?)", -1, PlumbLine::judge, Boundary.MIN, -1, 8, 257, Boundary.MAX);
        Boundary.refused(Boundary::busy, "judge of nothing", -11, x -> x.judge(5));
        Boundary.refusedEach(Boundary::busy, "judge(?), no ROW", -12, PlumbLine::judge, 4, 7);
        Boundary.refused(PlumbLine::new, "judge of nothing", -11, x -> x.judge(0));
    }

    private static void judgedBy(int want, PlumbLine x, int sort, int... values) {
        String row = java.util.Arrays.toString(java.util.Arrays.copyOf(values, Math.min(values.length, 5)));
        Boundary.due("judge by " + row, Boundary.shelve(x, 1, sort, values).judge(1), want);
    }

    /** A QUAKER at 3 is upright behind 3, a SCRUBBER at 12 behind 1. */
    private static PlumbLine later() {
        return Boundary.men(2, 0, 3, 5, 0, 12);
    }

    private static void judged() {
        for (int sort = 0; sort <= 2; sort++) {
            int skip = LEASTS[sort];
            judgedBy(-4, later(), sort);
            judgedBy(-4, later(), sort, 0);
            judgedBy(0, later(), sort, 1);
            judgedBy(0, later(), sort, -1, 1);
            judgedBy(-4, later(), sort, 0, 1, 1, 2, 2);
            judgedBy(3, later(), sort, 0, 1, 1, 1, 2);
            judgedBy(3, later(), sort, 0, 1, 1, 3, 2);
            judgedBy(4, later(), sort, 0, 1, 1, 2, 1);
            judgedBy(-4, later(), sort, skip, skip, 1);
            judgedBy(2, later(), sort, skip, skip, 2);
            judgedBy(0, later(), sort, skip + 1, 1);
            judgedBy(0, later(), sort, skip - 1, 1);
            judgedBy(-4, later(), sort, skips(sort, 100));
        }
        judgedBy(0, later(), 1, -128);
        judgedBy(0, later(), 2, -32768);
        int[] hundred = skips(0, 100);
        hundred[99] = 2;
        judgedBy(-4, later(), 0, hundred);
        hundred[99] = 1;
        judgedBy(99, later(), 0, hundred);
        judgedBy(-4, new PlumbLine(), 0, 0, 0, 0);
        judgedBy(1, new PlumbLine(), 0, 0, 1);
        PlumbLine eight = Boundary.men(1, 0, 0, 1, 0, 0, 1, 0, 0, 1, 0, 0, 1, 0, 0, 1, 0, 0, 1, 0, 0, 1, 0, 0);
        judgedBy(-4, eight, 0, 8, 8);
        judgedBy(1, eight, 0, 8, 7);
    }

    // ---- promise 27

    private static void yearsRefused() {
        for (int what = 0; what <= 1; what++) {
            int asked = what;
            Boundary.range(Boundary::busy, "years(?, 7, " + what + ")", -1, (x, n) -> x.years(n, 7, asked), 1, 20);
        }
        Boundary.range(Boundary::busy, "years(20, 7, ?)", -1, (x, what) -> x.years(20, 7, what), 0, 1);
        for (int z : new int[] {Boundary.MIN, -1, 0, 1, Boundary.MAX}) {
            Boundary.due("any seed is taken", Boundary.busy().years(20, z, 0) >= 0 ? 1 : 0, 1);
            Boundary.due("and changes nothing", Trace.of(Boundary.busy()).equals(traceBehindYears(z)) ? 1 : 0, 1);
        }
    }

    private static String traceBehindYears(int z) {
        PlumbLine x = Boundary.busy();
        x.years(20, z, 0);
        x.years(1, z, 1);
        return Trace.of(x);
    }

    /** The leans of so many years, by numbers of 64 bits. */
    private static int[] drawn(int draws, int seed) {
        int[] leans = new int[draws];
        long z = seed & 0xffffffffL;
        for (int i = 0; i < draws; i++) {
            z = (z * 1103515245L + 12345L) % (1L << 32);
            leans[i] = (int) (z % (1L << 31) / 65536 % 91) - 45;
        }
        return leans;
    }

    private static void years() {
        PlumbLine scrubber = Boundary.men(5, 0, 0);
        PlumbLine bankers = Boundary.men(1, 9, 0, 1, 4, 0, 1, 9, 0);
        PlumbLine two = Boundary.men(1, 0, 0, 1, 0, 0);
        for (int n = 1; n <= 20; n++) {
            Boundary.due("a SCRUBBER is UPRIGHT behind 12", scrubber.years(n, n, 0), n);
            Boundary.due("one never crashes", scrubber.years(n, n, 1), 0);
            int upright = 0;
            int[] leans = drawn(3 * n, -n);
            for (int i = 0; i < leans.length; i++) {
                upright += Math.abs(leans[i]) <= (i % 3 == 1 ? 4 : 9) ? 1 : 0;
            }
            Boundary.due("years(" + n + ", " + -n + ", 0)", bankers.years(n, -n, 0), upright);
            int crashes = 0;
            int[] both = drawn(2 * n, 91 * n);
            for (int i = 0; i < both.length; i += 2) {
                crashes += both[i] == 0 || both[i + 1] == 0 ? 0 : 12;
            }
            Boundary.due("years(" + n + ", " + 91 * n + ", 1)", two.years(n, 91 * n, 1), crashes);
        }
        PlumbLine propped = Boundary.men(1, 9, 0);
        propped.props(0);
        Boundary.due("a PROPPED one is drawn, too", propped.years(20, 1, 0), bankersAlone(20, 1));
        PlumbLine behind = Boundary.crashing(5);
        Boundary.due("CRASHES more, not those there are", behind.years(1, 1, 1), 12);
        Boundary.due("CRASHES stay", behind.count(4), 5);
    }

    private static int bankersAlone(int n, int seed) {
        int upright = 0;
        for (int lean : drawn(n, seed)) {
            upright += Math.abs(lean) <= 9 ? 1 : 0;
        }
        return upright;
    }

    private static void draws() {
        // a banker of 9 stays as he is drawn: years(1, z, 0) tells whether at 9 or nearer
        PlumbLine x = Boundary.men(1, 9, 0);
        int[] seeds = {Boundary.MIN, Boundary.MIN + 1, -65536, -2, -1, 0, 1, 2, 65535, 65536, Boundary.MAX - 1, Boundary.MAX};
        for (int z : seeds) {
            for (int n = 1; n <= 20; n++) {
                Boundary.due("years(" + n + ", " + z + ", 0)", x.years(n, z, 0), bankersAlone(n, z));
            }
        }
        // one quaker is upright behind 12 if drawn at 12 or nearer; each lean from -45 to 45 by some seed
        boolean[] seen = new boolean[91];
        PlumbLine quaker = Boundary.men(2, 0, 0);
        for (int z = 0; z < 500; z++) {
            int lean = drawn(1, z * 65537)[0];
            seen[lean + 45] = true;
            Boundary.due("a QUAKER drawn at " + lean, quaker.years(1, z * 65537, 0), Math.abs(lean) <= 12 ? 1 : 0);
        }
        for (int told = 0; told < 91; told++) {
            Boundary.due("some seed draws " + (told - 45), seen[told] ? 1 : 0, 1);
        }
    }

    private static void yearsAtMostCrashes() {
        // seed 1 draws -42 first, and no 0 in three years: bankers of 0 crash on each day
        int[] crashes = {900, 963, 964, 986, 987, 988, 998, 999};
        for (int had : crashes) {
            PlumbLine x = Boundary.crashing(had);
            int left = 999 - had;
            Boundary.due("CRASHES more by a year at " + had, x.years(1, 1, 1), Math.min(12, left));
            Boundary.due("CRASHES more by three at " + had, x.years(3, 1, 1), 3 * Math.min(12, left));
        }
    }
}
