import java.util.function.Predicate;
import java.util.function.Supplier;

/** Promises 10 to 14: what will be, and when first. */
final class DaysOnBoundaries {
    /** A banker of 9 is upright there, and leans no more: six of them hold a mean. */
    private static final int[] SIX_AT_5 = {1, 9, 5, 1, 9, 5, 1, 9, 5, 1, 9, 5, 1, 9, 5, 1, 9, 5};
    private static final int[] SIX_AT_6 = {1, 9, 6, 1, 9, 6, 1, 9, 6, 1, 9, 6, 1, 9, 6, 1, 9, 6};

    private DaysOnBoundaries() { }

    static void all() {
        Boundary.test(10, "`int leanThen(int m, int n)`: LEAN n DAYS on. Refused as told: -1.", DaysOnBoundaries::leanThen);
        Boundary.test(10, "In mind, n DAYS on (0 .. 60) (DAY may pass 999 there): LEAN; where THE LEAD is; SWINGS; CRASHES; who "
            + "is UPRIGHT (bits).", DaysOnBoundaries::leanPast999);
        Boundary.test(11, "`int then(int n, int what)`: n DAYS on: where THE LEAD is (what 0), SWINGS (1), CRASHES (2), who is "
            + "UPRIGHT (3, bits). -1.", DaysOnBoundaries::then);
        Boundary.test(11, "In mind, n DAYS on (0 .. 60) (DAY may pass 999 there): LEAN; where THE LEAD is; SWINGS; CRASHES; who "
            + "is UPRIGHT (bits).", DaysOnBoundaries::thenAsTheDaysGo);
        Boundary.test(12, "STRAIGHT: behind how many DAYS (0 .. 60) one has LEAN 0 first; -4.", DaysOnBoundaries::straightDays);
        Boundary.test(12, "`int straight(int m)`: STRAIGHT; -4. -1.", DaysOnBoundaries::straight);
        Boundary.test(13, "FIRST CRASH: behind how many DAYS (1 .. 60) there is one more first; -4.",
            DaysOnBoundaries::firstCrash);
        Boundary.test(13, "CRASHES are 1 more (999 at most),", DaysOnBoundaries::firstCrashAtMost);
        Boundary.test(13, "STILL: the least n (0 .. 50) with all LEANS behind n as behind n and 1 .. 10 more DAYS; -4.",
            DaysOnBoundaries::still);
        Boundary.test(13, "`int crash(int what)`: FIRST CRASH (what 0; -4), STILL (1; -4). -1.", DaysOnBoundaries::crash);
        Boundary.test(14, "FINDS: behind how many DAYS (0 .. 60) THE LEAD is at the PLACE of one first; -4.",
            DaysOnBoundaries::findsDays);
        Boundary.test(14, "`int finds(int m)`: FINDS; -4. -1.", DaysOnBoundaries::finds);
    }

    /** Behind how many days, each gone through, it is so first; -4 if not behind 60. */
    private static int first(Supplier<PlumbLine> made, int from, Predicate<PlumbLine> so) {
        PlumbLine x = made.get();
        for (int n = 0; n <= 60; n++) {
            if (n >= from && so.test(x)) {
                return n;
            }
            x.days(1);
        }
        return -4;
    }

    private static int[] joined(int[] men, int... more) {
        int[] all = java.util.Arrays.copyOf(men, men.length + more.length);
        System.arraycopy(more, 0, all, men.length, more.length);
        return all;
    }

    // ---- promises 10 and 11

    private static void leanThen() {
        Boundary.range(Boundary::busy, "leanThen(2, ?)", Boundary.LEAN_REFUSED, (x, n) -> x.leanThen(2, n), 0, 60);
        Boundary.range(Boundary::busy, "leanThen(?, 60)", Boundary.LEAN_REFUSED, (x, m) -> x.leanThen(m, 60), 0, 4);
        Boundary.range(Boundary::full, "leanThen(?, 0)", Boundary.LEAN_REFUSED, (x, m) -> x.leanThen(m, 0), 0, 7);
        Boundary.refused(PlumbLine::new, "leanThen(0, 0)", Boundary.LEAN_REFUSED, x -> x.leanThen(0, 0));
        PlumbLine x = Boundary.men(2, 0, 45, 5, 0, 0, 0, 0, 30);
        x.props(2);
        for (int n = 0; n <= 60; n++) {
            Boundary.due("leanThen(0, " + n + ")", x.leanThen(0, n), Math.max(0, 45 - n));
            Boundary.due("of a PROPPED one", x.leanThen(2, n), 30);
        }
        Boundary.due("LEAN stays", x.lean(0), 45);
        Boundary.due("DAY stays", x.count(1), 0);
    }

    private static void leanPast999() {
        for (int day : new int[] {938, 939, 940, 998, 999}) {
            PlumbLine x = Boundary.come(Boundary.onDay(day), 2, 0, 45, 5, 0, 0);
            for (int n : new int[] {0, 1, 2, 44, 45, 59, 60}) {
                Boundary.due("on " + day + ", " + n + " DAYS on", x.leanThen(0, n), Math.max(0, 45 - n));
            }
            Boundary.due("DAY stays", x.count(1), day);
        }
        // a partner, who leans by 2 towards 0 on even days: 1000, 1002 ..
        PlumbLine partner = Boundary.come(Boundary.onDay(999), 7, 0, 40, 1, 9, 0, 1, 9, 0, 1, 9, 0, 1, 9, 0, 1, 9, 0, 1, 9, 0);
        int[] leans = {40, 38, 38, 36, 36, 34};
        for (int n = 0; n < leans.length; n++) {
            Boundary.due("DAY " + (999 + n), partner.leanThen(0, n), leans[n]);
        }
        PlumbLine earlier = Boundary.come(Boundary.onDay(998), 7, 0, 40, 1, 9, 0, 1, 9, 0, 1, 9, 0, 1, 9, 0, 1, 9, 0, 1, 9, 0);
        Boundary.due("DAY 999", earlier.leanThen(0, 1), 40);
        Boundary.due("DAY 1000", earlier.leanThen(0, 2), 38);
    }

    private static void then() {
        for (int what = 0; what <= 3; what++) {
            int asked = what;
            Boundary.range(Boundary::busy, "then(?, " + what + ")", -1, (x, n) -> x.then(n, asked), 0, 60);
        }
        Boundary.range(Boundary::busy, "then(0, ?)", -1, (x, what) -> x.then(0, what), 0, 3);
        Boundary.range(() -> Boundary.onDay(999), "then(60, ?)", -1, (x, what) -> x.then(60, what), 0, 3);
        PlumbLine x = Boundary.busy();
        for (int what = 0; what <= 3; what++) {
            int now = x.count(what < 3 ? what + 2 : 5);
            Boundary.due("then(0, " + what + ")", x.then(0, what), now);
            Boundary.due("then(60, " + what + ") leaves it", x.then(60, what) < 0 ? 1 : 0, 0);
            Boundary.due("as it is", x.count(what < 3 ? what + 2 : 5), now);
        }
    }

    private static void thenAsTheDaysGo() {
        PlumbLine gone = Boundary.busy();
        PlumbLine told = Boundary.busy();
        PlumbLine leans = Boundary.busy();
        for (int n = 0; n <= 60; n++) {
            Boundary.due("THE LEAD behind " + n, told.then(n, 0), gone.count(2));
            Boundary.due("SWINGS behind " + n, told.then(n, 1), gone.count(3));
            Boundary.due("CRASHES behind " + n, told.then(n, 2), gone.count(4));
            Boundary.due("UPRIGHT behind " + n, told.then(n, 3), gone.count(5));
            Boundary.due("LEAN behind " + n, leans.leanThen(4, n), gone.lean(4));
            gone.days(1);
        }
        PlumbLine late = Boundary.crashing(999);
        Boundary.due("THE LEAD past 999", late.then(60, 0), (999 + 60) % 2);
        Boundary.due("SWINGS past 999", late.then(60, 1), 9);
        Boundary.due("CRASHES past 999", late.then(60, 2), 999);
        Boundary.due("UPRIGHT past 999", late.then(60, 3), 0);
        Boundary.due("DAY stays", late.count(1), 999);
        PlumbLine next = Boundary.come(Boundary.onDay(999), 2, 0, 2, 1, 9, 0);
        Boundary.due("UPRIGHT 1 on from 999", next.then(1, 3), 0b10);
        Boundary.due("UPRIGHT 2 on from 999", next.then(2, 3), 0b11);
    }

    // ---- promise 12

    /** A man who follows the mean of a propped clerk, of a quaker and of himself. */
    private static PlumbLine following(int clerk) {
        PlumbLine x = Boundary.men(3, 0, clerk, 2, 0, 40, 0, 0, 28);
        x.props(0);
        return x;
    }

    private static void straightDays() {
        for (int lean = -45; lean <= 45; lean++) {
            PlumbLine x = Boundary.men(2, 0, lean);
            Boundary.due("of a QUAKER at " + lean, x.straight(0), Math.abs(lean));
        }
        Boundary.due("0 already", Boundary.men(1, 0, 0).straight(0), 0);
        Boundary.due("0 already, of one who leans away", Boundary.men(4, 0, 0).straight(0), 0);
        Boundary.due("of a BANKER at 1", Boundary.men(1, 0, 1).straight(0), -4);
        Boundary.due("of a BANKER at -1", Boundary.men(1, 0, -1).straight(0), -4);
        int[] clerks = {39, 41, 43, 45};
        int[] days = {59, 60, -4, -4};
        for (int i = 0; i < clerks.length; i++) {
            int clerk = clerks[i];
            Boundary.due("by a clerk at " + clerk, following(clerk).straight(2), days[i]);
            Boundary.due("as the days go", first(() -> following(clerk), 0, x -> x.lean(2) == 0), days[i]);
        }
        PlumbLine oneDayOn = following(43);
        oneDayOn.days(1);
        Boundary.due("60 from the next day", oneDayOn.straight(2), 60);
        PlumbLine late = Boundary.come(Boundary.onDay(999), 2, 0, 45);
        Boundary.due("past DAY 999", late.straight(0), 45);
    }

    private static void straight() {
        Boundary.range(Boundary::busy, "straight(?)", -1, PlumbLine::straight, 0, 4);
        Boundary.range(Boundary::full, "straight(?)", -1, PlumbLine::straight, 0, 7);
        Boundary.refusedEach(PlumbLine::new, "straight(?)", -1, PlumbLine::straight, -1, 0, 1);
        PlumbLine x = Boundary.full();
        x.pushes(7, 0);
        Boundary.due("of the last, PROPPED at 0", x.straight(7), 0);
        x.pushes(7, 1);
        Boundary.due("of the last, PROPPED at 1", x.straight(7), -4);
        Boundary.due("LEAN stays", x.lean(7), 1);
    }

    // ---- promise 13

    private static void firstCrash() {
        // a broker of 3 goes 2 on a day and is upright up to 6
        int[] leans = {6, 5, 4, 3, 2, 1, 0};
        int[] days = {1, 1, 2, 2, 3, 3, 4};
        for (int i = 0; i < leans.length; i++) {
            PlumbLine x = Boundary.men(4, 3, leans[i], 4, 3, leans[i]);
            Boundary.due("of brokers at " + leans[i], x.crash(0), days[i]);
        }
        for (int d = 14; d <= 38; d++) {
            PlumbLine x = Boundary.leavingOn(d);
            Boundary.due("FIRST CRASH", x.crash(0), d);
            Boundary.due("none a day ahead", x.then(d - 1, 2), 0);
            Boundary.due("one then", x.then(d, 2), 1);
        }
        // found by search; no city is known whose first crash is on the day behind
        Supplier<PlumbLine> late = () -> Boundary.told("m7990;m7990;m7655;m7452;m6930;r4;m3752;m7505;");
        Boundary.due("the last DAY", late.get().crash(0), 60);
        Boundary.due("as the days go", first(late, 1, x -> x.count(4) == 1), 60);
        PlumbLine dayOn = late.get();
        dayOn.days(1);
        Boundary.due("the last DAY but one", dayOn.crash(0), 59);
        Boundary.due("none in 60", Boundary.men(1, 9, 0, 1, 0, 9).crash(0), -4);
        Boundary.due("of one man none", Boundary.men(1, 0, 45).crash(0), -4);
        Boundary.due("of nobody none", new PlumbLine().crash(0), -4);
        Boundary.due("one more than those there are", Boundary.crashing(7).crash(0), 1);
    }

    private static void firstCrashAtMost() {
        for (int days : new int[] {997, 998, 999}) {
            PlumbLine x = Boundary.crashing(days);
            Boundary.due("CRASHES", x.count(4), days);
            Boundary.due("one more at " + days, x.crash(0), 1);
            x.pushes(1, 0);
            Boundary.due("none more at " + days, x.crash(0), -4);
        }
        PlumbLine later = Boundary.men(4, 3, 45, 4, 3, 45);
        Boundary.pass(later, 999);
        later.pushes(0, 0);
        later.pushes(1, 0);
        Boundary.due("a later one at 999", later.crash(0), 4);
    }

    private static void still() {
        // a man at a time 1 nearer to the mean of them, which is 5 (by 36 and his) or 6 (by 43 and his)
        int[] from5 = joined(SIX_AT_5, 1, 9, 6);
        int[] from6 = joined(SIX_AT_6, 1, 9, 7);
        for (int lean = -45; lean <= 5; lean++) {
            Boundary.due("a man from " + lean + " to 5", Boundary.men(joined(from5, 0, 0, lean)).crash(1), 5 - lean);
        }
        Boundary.due("50 DAYS to 6", Boundary.men(joined(from6, 0, 0, -44)).crash(1), 50);
        Boundary.due("51 DAYS to 6", Boundary.men(joined(from6, 0, 0, -45)).crash(1), -4);
        PlumbLine dayOn = Boundary.men(joined(from6, 0, 0, -45));
        dayOn.days(1);
        Boundary.due("50 from the next day", dayOn.crash(1), 50);
        Boundary.due("of nobody", new PlumbLine().crash(1), 0);
        Boundary.due("never still", Boundary.crashing(0).crash(1), -4);
        PlumbLine propped = Boundary.crashing(0);
        propped.props(0);
        Boundary.due("one of two never still", propped.crash(1), -4);
        propped.props(1);
        Boundary.due("CRASHES of PROPPED ones are still", propped.crash(1), 0);
        // he rests on odd days: one day alike is not ten
        PlumbLine partner = Boundary.men(7, 0, 4, 1, 9, 0, 1, 9, 0, 1, 9, 0, 1, 9, 0, 1, 9, 0, 1, 9, 0, 1, 9, 0);
        Boundary.due("a PARTNER at 4 rests, goes 2, rests, goes 2", partner.crash(1), 4);
        partner.pushes(0, 2);
        Boundary.due("a PARTNER at 2", partner.crash(1), 2);
        partner.pushes(0, 0);
        Boundary.due("a PARTNER at 0", partner.crash(1), 0);
        PlumbLine late = Boundary.come(Boundary.onDay(999), 2, 0, 45, 1, 9, 0);
        Boundary.due("past DAY 999", late.crash(1), 45);
    }

    private static void crash() {
        Boundary.range(Boundary::busy, "crash(?)", -1, PlumbLine::crash, 0, 1);
        Boundary.range(PlumbLine::new, "crash(?)", -1, PlumbLine::crash, 0, 1);
        PlumbLine x = Boundary.leavingOn(20);
        Boundary.due("crash(0)", x.crash(0), 20);
        Boundary.due("DAY stays", x.count(1), 0);
        Boundary.due("LEAN stays", x.lean(7), 0);
        Boundary.due("crash(1)", Boundary.crashing(0).crash(1), -4);
        Boundary.due("CRASHES stay", x.count(4), 0);
    }

    // ---- promise 14

    /** Found by search: in the end the lead seeks one of these behind the other. */
    private static PlumbLine sought() {
        PlumbLine x = Boundary.men(5, 5, -8, 3, 4, -26, 5, 5, 9, 7, 1, 7, 4, 4, 0, 7, 8, -45, 0, 2, -15);
        x.props(2);
        x.props(6);
        return x;
    }

    private static void findsDays() {
        int[] days = {0, 1, 57, 58, 59, 60, -4};
        for (int m = 0; m < days.length; m++) {
            int one = m;
            Boundary.due("finds(" + m + ")", sought().finds(m), days[m]);
            Boundary.due("as the days go", first(DaysOnBoundaries::sought, 0, x -> x.count(2) == one), days[m]);
        }
        PlumbLine dayOn = sought();
        dayOn.days(1);
        Boundary.due("60 from the next day", dayOn.finds(6), 60);
        PlumbLine seeks = Boundary.men(1, 9, 0, 1, 9, 1, 1, 9, 1, 1, 9, 1, 1, 9, 1, 1, 9, 1, 1, 9, 1, 1, 9, 1);
        for (int place = 0; place <= 7; place++) {
            seeks.hangs(0, place);
            for (int m = 0; m <= 7; m++) {
                Boundary.due("from " + place + " at " + m, seeks.finds(m), m <= place ? place - m : -4);
            }
        }
        seeks.hangs(9, 7);
        Boundary.due("now already", seeks.finds(7), 0);
        Boundary.due("behind the last man's", seeks.finds(0), 1);
        Boundary.due("round to the last but one", seeks.finds(6), 7);
    }

    private static void finds() {
        Boundary.range(Boundary::busy, "finds(?)", -1, PlumbLine::finds, 0, 4);
        Boundary.range(Boundary::full, "finds(?)", -1, PlumbLine::finds, 0, 7);
        Boundary.refusedEach(PlumbLine::new, "finds(?)", -1, PlumbLine::finds, -1, 0, 1);
        PlumbLine x = Boundary.men(1, 9, 0, 1, 9, 0);
        x.hangs(0, 5);
        Boundary.due("THE LEAD behind the men", x.finds(0), 5);
        Boundary.due("and at the second a day ahead", x.finds(1), 4);
        Boundary.due("PLACE stays", x.count(2), 5);
    }
}
