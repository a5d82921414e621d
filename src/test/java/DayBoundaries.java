/** Promise 9: what a day does, man by man, crash by crash and place by place. */
final class DayBoundaries {
    private DayBoundaries() { }

    static void all() {
        Boundary.test(9, "`int days(int n)`: n DAYS (1 .. 60): how many are UPRIGHT. -1, -3 DAY above 999.", DayBoundaries::days);
        Boundary.test(9, "days() is refused (-3; in THE TEXT kind 2), if DAY and n together are above 999; none of them goes "
            + "then.", DayBoundaries::lastDay);
        Boundary.test(9, "MEAN: the mean of LEANS of all men, cut towards 0): MAN 1 towards MEAN (0 if there);",
            DayBoundaries::manLeans);
        Boundary.test(9, "\"a by b, cut\" is a divided by b, toward 0;", DayBoundaries::cutTowardsZero);
        Boundary.test(9, "BANKER 0; QUAKER 1 towards 0;", DayBoundaries::quakerLeans);
        Boundary.test(9, "CLERK 2 towards MEAN (1, if 1 away);", DayBoundaries::clerkLeans);
        Boundary.test(9, "BROKER FIGURE by 3, cut, and 1, away from 0 (east, if at 0);", DayBoundaries::brokerLeans);
        Boundary.test(9, "SCRUBBER 5 towards 0 (no farther);", DayBoundaries::scrubberLeans);
        Boundary.test(9, "SWINDLER twice a BROKER's;", DayBoundaries::swindlerLeans);
        Boundary.test(9, "PARTNER as a CLERK on even DAYS, else 0.", DayBoundaries::partnerLeans);
        Boundary.test(9, "A PROPPED one: 0.", DayBoundaries::proppedLeans);
        Boundary.test(9, "MEAN is that of LEANS as they are; all LEAN MORE, all by that (held at -45, 45).", DayBoundaries::held);
        Boundary.test(9, "Then if fewer than half of the men (their number by 2, cut) are UPRIGHT: a CRASH:",
            DayBoundaries::fewerThanHalf);
        Boundary.test(9, "CRASHES are 1 more (999 at most),", DayBoundaries::mostCrashes);
        Boundary.test(9, "each who is not PROPPED has the other sign of LEAN,", DayBoundaries::otherSign);
        Boundary.test(9, "SWINGS are 9; else SWINGS are 1 less (0 at least).", DayBoundaries::swings);
        Boundary.test(9, "SWINGS above 0: it goes 1 PLACE on (behind the last man's 0);", DayBoundaries::onePlaceOn);
        Boundary.test(9, "at 0 it goes to the PLACE of the man least far from 0 (of several the least), 1 PLACE nearer (by "
            + "numbers).", DayBoundaries::onePlaceNearer);
        Boundary.test(9, "Without men it stays.", DayBoundaries::withoutMen);
    }

    // ---- how many days

    private static void days() {
        Boundary.range(Boundary::busy, "days(?)", -1, PlumbLine::days, 1, 60);
        Boundary.refusedEach(() -> Boundary.onDay(999), "days(?) on DAY 999", -1, PlumbLine::days, Boundary.MIN, 0, 61,
            Boundary.MAX);
        for (int n : new int[] {1, 2, 59, 60}) {
            PlumbLine x = Boundary.men(2, 0, 45, 2, 0, 1);
            Boundary.due("UPRIGHT behind " + n, x.days(n), n < 45 ? 1 : 2);
            Boundary.due("DAY behind " + n, x.count(1), n);
            Boundary.due("LEAN behind " + n, x.lean(0), Math.max(0, 45 - n));
        }
        Boundary.due("UPRIGHT of nobody", new PlumbLine().days(1), 0);
        Boundary.due("UPRIGHT of eight", Boundary.men(1, 0, 0, 1, 0, 0, 1, 0, 0, 1, 0, 0, 1, 0, 0, 1, 0, 0, 1, 0, 0, 1, 0, 0)
            .days(60), 8);
    }

    private static void lastDay() {
        for (int n : new int[] {1, 2, 59, 60}) {
            PlumbLine x = Boundary.onDay(998 - n);
            Boundary.due("to 998", x.days(n), 0);
            Boundary.due("DAY", x.count(1), 998);
            PlumbLine last = Boundary.onDay(999 - n);
            Boundary.due("to 999", last.days(n), 0);
            Boundary.due("DAY", last.count(1), 999);
            Boundary.refused(() -> Boundary.onDay(1000 - n), "days(" + n + ") to 1000", -3, y -> y.days(n));
            Boundary.refused(() -> Boundary.onDay(999), "days(" + n + ") on 999", -3, y -> y.days(n));
        }
        Boundary.refused(() -> Boundary.crashing(960), "days(40) of crashes", -3, x -> x.days(40));
        Boundary.due("days(39)", Boundary.crashing(960).days(39), 0);
        Boundary.refusedEach(() -> Boundary.crashing(998), "days(?) of crashes", -3, PlumbLine::days, 2, 3, 60);
    }

    // ---- who leans more

    /** The lean behind a day, begun on a day, of one with a banker and two upright ones, who keep a crash away. */
    private static int leanBehind(int day, int kind, int figure, int lean, int banker) {
        PlumbLine x = Boundary.come(Boundary.onDay(day), kind, figure, lean, 1, 0, banker, 1, 9, 0, 1, 9, 0);
        x.days(1);
        if (x.count(4) != 0) {
            throw new IllegalStateException("a crash");
        }
        return x.lean(0);
    }

    /** Each two: the lean and the one that is due behind a day with a banker at that lean. */
    private static void leansTo(int kind, int figure, int banker, int... twos) {
        for (int i = 0; i < twos.length; i += 2) {
            String of = "KIND " + kind + " with " + figure + " at " + twos[i] + ", a banker at " + banker;
            Boundary.due(of, leanBehind(1, kind, figure, twos[i], banker), twos[i + 1]);
            Boundary.due("the other way, " + of, leanBehind(1, kind, figure, -twos[i], -banker), -twos[i + 1]);
        }
    }

    private static int toward(int from, int to, int most) {
        int gap = to - from;
        return gap < 0 ? Math.max(-most, gap) : Math.min(most, gap);
    }

    private static void everyMean(int kind, int most) {
        for (int lean = -45; lean <= 45; lean++) {
            for (int banker = -45; banker <= 45; banker++) {
                int mean = (lean + banker) / 4;
                Boundary.due("KIND " + kind + " at " + lean + ", a banker at " + banker,
                    leanBehind(1, kind, 0, lean, banker), lean + toward(lean, mean, most));
            }
        }
    }

    private static void manLeans() {
        // with two at 0: the mean is a fourth of the sum of both, cut
        leansTo(0, 0, 0, 0, 0, 1, 0, 2, 1, 45, 44);
        leansTo(0, 0, 3, 0, 0, 1, 1, 2, 1);
        leansTo(0, 0, 4, 0, 1, 1, 1);
        leansTo(0, 0, 5, 0, 1, 1, 1, 3, 2);
        leansTo(0, 0, 6, 2, 2, 3, 2, 1, 1);
        leansTo(0, 0, 7, 0, 1, 1, 2);
        leansTo(0, 0, 45, -45, -44);
        everyMean(0, 1);
    }

    private static void cutTowardsZero() {
        // a man at 0 goes by the mean alone: a fourth of the banker's, cut
        for (int banker = -5; banker <= 5; banker++) {
            int want = banker <= -4 ? -1 : banker >= 4 ? 1 : 0;
            Boundary.due("a fourth of " + banker, leanBehind(1, 0, 0, 0, banker), want);
        }
        // a clerk at 0 shows a mean of 1 from one of 2
        int[] bankers = {-12, -9, -8, -7, -5, -4, -3, 3, 4, 5, 7, 8, 9, 12};
        int[] leans = {-2, -2, -2, -1, -1, -1, 0, 0, 1, 1, 1, 2, 2, 2};
        for (int i = 0; i < bankers.length; i++) {
            Boundary.due("a fourth of " + bankers[i], leanBehind(1, 3, 0, 0, bankers[i]), leans[i]);
        }
        PlumbLine nobody = new PlumbLine();
        Boundary.due("nobody's mean divides nothing", nobody.days(60), 0);
    }

    private static void quakerLeans() {
        leansTo(1, 9, 45, 0, 0, 1, 1, 45, 45);
        leansTo(2, 9, 45, 0, 0, 1, 0, -1, 0, 2, 1, 45, 44);
    }

    private static void clerkLeans() {
        leansTo(3, 0, 0, 0, 0, 1, 0, 2, 0, 3, 1, 4, 2);
        leansTo(3, 0, 3, 0, 0, 1, 1);
        leansTo(3, 0, 4, 0, 1);
        leansTo(3, 0, 7, 0, 1);
        leansTo(3, 0, 8, 0, 2);
        leansTo(3, 0, 11, 0, 2);
        leansTo(3, 0, 12, 0, 2, 4, 4, 5, 4, 6, 4, 7, 5);
        leansTo(3, 0, -45, 45, 43);
        everyMean(3, 2);
    }

    private static void brokerLeans() {
        leansAway(4, 1, 1, 1, 2, 2, 2, 3, 3, 3, 4);
    }

    /** So much, by figures 0 to 9. */
    private static void leansAway(int kind, int... steps) {
        for (int figure = 0; figure <= 9; figure++) {
            int step = steps[figure];
            leansTo(kind, figure, 45, 1, 1 + step, 10, 10 + step);
            leansTo(kind, figure, -45, 1, 1 + step, 2, 2 + step);
            Boundary.due("east, if at 0", leanBehind(1, kind, figure, 0, -45), step);
            Boundary.due("east, if at 0", leanBehind(0, kind, figure, 0, 45), step);
        }
    }

    private static void scrubberLeans() {
        leansTo(5, 0, 45, 0, 0, 1, 0, 4, 0, 5, 0, 6, 1, 9, 4, 10, 5, 45, 40);
        leansTo(5, 9, -45, 4, 0, 5, 0, 6, 1);
    }

    private static void swindlerLeans() {
        leansAway(6, 2, 2, 2, 4, 4, 4, 6, 6, 6, 8);
    }

    private static void partnerLeans() {
        leansTo(7, 9, 0, 0, 0, 1, 0, 2, 0, 3, 1);
        leansTo(7, 0, 8, 0, 2);
        leansTo(7, 0, 4, 0, 1);
        everyMean(7, 2);
        int[] days = {0, 1, 2, 3, 996, 997, 998};
        int[] leans = {20, 18, 20, 18, 20, 18, 20};
        for (int i = 0; i < days.length; i++) {
            Boundary.due("on DAY " + (days[i] + 1), leanBehind(days[i], 7, 0, 20, 0), leans[i]);
        }
    }

    private static void proppedLeans() {
        for (int kind = 0; kind < 8; kind++) {
            for (int lean : new int[] {-45, -1, 0, 1, 45}) {
                PlumbLine x = Boundary.men(kind, 9, lean, 1, 9, 0, 1, 9, 0);
                x.props(0);
                x.days(2);
                Boundary.due("PROPPED, of KIND " + kind, x.lean(0), lean);
                Boundary.due("60 DAYS on", x.leanThen(0, 60), lean);
            }
        }
        PlumbLine x = Boundary.men(2, 0, 9, 2, 0, 0);
        x.props(0);
        x.days(1);
        x.props(0);
        x.days(1);
        Boundary.due("PROPPED not any more", x.lean(0), 8);
        x.props(0);
        x.days(1);
        Boundary.due("PROPPED again", x.lean(0), 8);
    }

    private static void held() {
        // brokers of 9 go 4, swindlers of 9 go 8
        int[] brokers = {40, 44, 41, 45, 42, 45, 43, 45, 44, 45, 45, 45};
        int[] swindlers = {36, 44, 37, 45, 38, 45, 44, 45, 45, 45};
        leansTo(4, 9, 0, brokers);
        leansTo(6, 9, 0, swindlers);
        leansTo(4, 0, 0, 43, 44, 44, 45, 45, 45);
        PlumbLine x = Boundary.men(4, 9, 44, 0, 0, 10, 1, 9, 0, 1, 9, 0, 1, 9, 0);
        x.days(1);
        Boundary.due("by the mean as it is: 54 by 5", x.lean(1), 10);
        x.days(1);
        Boundary.due("by the mean as it is: 55 by 5", x.lean(1), 11);
        PlumbLine both = Boundary.men(3, 0, 0, 0, 0, 2, 1, 9, 8, 1, 9, 0);
        both.days(1);
        Boundary.due("the first by a mean of 10 by 4", both.lean(0), 2);
        Boundary.due("the second by that, too", both.lean(1), 2);
    }

    // ---- crashes

    /** Bankers of 9 at 0 are upright, bankers of 0 at 10 are not; none of them leans more. */
    private static PlumbLine bankers(int upright, int others) {
        PlumbLine x = new PlumbLine();
        for (int m = 0; m < others; m++) {
            Boundary.come(x, 1, 0, 10);
        }
        for (int m = 0; m < upright; m++) {
            Boundary.come(x, 1, 9, 0);
        }
        return x;
    }

    private static void fewerThanHalf() {
        int[] halves = {0, 0, 1, 1, 2, 2, 3, 3, 4};
        for (int men = 0; men <= 8; men++) {
            for (int upright = 0; upright <= men; upright++) {
                String of = upright + " of " + men + " are UPRIGHT";
                int crash = upright < halves[men] ? 1 : 0;
                PlumbLine x = bankers(upright, men - upright);
                Boundary.due("crash(0), " + of, x.crash(0), crash == 1 ? 1 : -4);
                Boundary.due("days(1), " + of, x.days(1), upright);
                Boundary.due("CRASHES, " + of, x.count(4), crash);
                Boundary.due("SWINGS, " + of, x.count(3), 9 * crash);
                if (upright < men) {
                    Boundary.due("LEAN, " + of, x.lean(0), crash == 1 ? -10 : 10);
                }
            }
        }
        PlumbLine leaves = Boundary.men(4, 3, 6, 4, 3, 6);
        Boundary.due("UPRIGHT now", leaves.count(5), 3);
        leaves.days(1);
        Boundary.due("a CRASH behind they leaned", leaves.count(4), 1);
        PlumbLine comes = Boundary.men(5, 0, 14, 5, 0, 45);
        Boundary.due("not UPRIGHT now", comes.count(5), 0);
        comes.days(1);
        Boundary.due("none behind they leaned", comes.count(4), 0);
    }

    private static void mostCrashes() {
        for (int days : new int[] {1, 2, 997, 998, 999}) {
            Boundary.due("CRASHES behind " + days, Boundary.crashing(days).count(4), days);
        }
        PlumbLine x = Boundary.crashing(997);
        int[] crashes = {997, 998, 999, 999, 999};
        for (int n = 0; n < crashes.length; n++) {
            Boundary.due("CRASHES " + n + " DAYS on from 997", x.then(n, 2), crashes[n]);
        }
        PlumbLine most = Boundary.crashing(999);
        Boundary.due("CRASHES 60 DAYS on from 999", most.then(60, 2), 999);
        Boundary.due("and the other sign all the same", most.leanThen(0, 1), 10);
        Boundary.due("and SWINGS", most.then(1, 1), 9);
    }

    private static void otherSign() {
        PlumbLine x = Boundary.men(1, 0, -45, 1, 0, -1, 1, 0, 0, 1, 0, 1, 1, 0, 45, 1, 0, 45);
        x.props(5);
        int[] first = {45, 1, 0, -1, -45, 45};
        int[] second = {-45, -1, 0, 1, 45, 45};
        x.days(1);
        for (int m = 0; m < 6; m++) {
            Boundary.due("LEAN of " + m, x.lean(m), first[m]);
        }
        x.days(1);
        for (int m = 0; m < 6; m++) {
            Boundary.due("LEAN of " + m + " behind two", x.lean(m), second[m]);
        }
        PlumbLine propped = Boundary.crashing(0);
        propped.props(0);
        propped.props(1);
        propped.days(1);
        Boundary.due("a CRASH of PROPPED ones", propped.count(4), 1);
        Boundary.due("LEAN of the first", propped.lean(0), 10);
        Boundary.due("LEAN of the second", propped.lean(1), 20);
    }

    private static void swings() {
        for (int swings = 0; swings <= 9; swings++) {
            PlumbLine quiet = bankers(1, 0);
            quiet.hangs(swings, 0);
            quiet.days(1);
            Boundary.due("less than " + swings, quiet.count(3), swings == 0 ? 0 : swings - 1);
            quiet.days(8);
            Boundary.due("0 behind nine from " + swings, quiet.count(3), 0);
            PlumbLine crashed = bankers(0, 2);
            crashed.hangs(swings, 0);
            crashed.days(1);
            Boundary.due("a CRASH at " + swings, crashed.count(3), 9);
            PlumbLine nobody = new PlumbLine();
            nobody.hangs(swings, 0);
            Boundary.due("of nobody", nobody.then(1, 1), Math.max(0, swings - 1));
            Boundary.due("of nobody in the end", nobody.then(60, 1), 0);
        }
    }

    // ---- the lead

    /** Bankers who are all upright; only one is at 0. */
    private static PlumbLine plumbAt(int place, int men) {
        PlumbLine x = new PlumbLine();
        for (int m = 0; m < men; m++) {
            Boundary.come(x, 1, 9, m == place ? 0 : m % 2 == 0 ? 1 : -1);
        }
        return x;
    }

    private static void onePlaceOn() {
        for (int men = 1; men <= 8; men++) {
            PlumbLine x = plumbAt(0, men);
            for (int swings = 2; swings <= 9; swings++) {
                for (int place = 0; place <= 7; place++) {
                    x.hangs(swings, place);
                    Boundary.due("from " + place + " of " + men + " with " + swings, x.then(1, 0),
                        place >= men - 1 ? 0 : place + 1);
                }
            }
            x.hangs(1, 7);
            Boundary.due("with 1, which is 0 then, it comes nearer", x.then(1, 0), 6);
        }
        PlumbLine crashed = Boundary.crashing(0);
        crashed.days(1);
        Boundary.due("on the DAY of a CRASH", crashed.count(2), 1);
        crashed.days(1);
        Boundary.due("behind the last man's", crashed.count(2), 0);
    }

    private static void onePlaceNearer() {
        for (int men = 1; men <= 8; men++) {
            for (int plumb = 0; plumb < men; plumb++) {
                PlumbLine x = plumbAt(plumb, men);
                for (int place = 0; place <= 7; place++) {
                    int want = place < plumb ? place + 1 : place > plumb ? place - 1 : place;
                    x.hangs(0, place);
                    Boundary.due("from " + place + " to " + plumb + " of " + men, x.then(1, 0), want);
                    x.hangs(1, place);
                    Boundary.due("with 1, from " + place + " to " + plumb + " of " + men, x.then(1, 0), want);
                }
            }
        }
        PlumbLine several = Boundary.men(1, 9, 5, 1, 9, -4, 1, 9, 4, 1, 9, -5);
        Boundary.due("of several the least", several.then(5, 0), 1);
        several.pushes(2, 3);
        Boundary.due("one less far", several.then(5, 0), 2);
        PlumbLine behind = Boundary.men(2, 0, 2, 5, 0, 5);
        Boundary.due("by LEANS as they are behind the DAY", behind.then(1, 0), 1);
    }

    private static void withoutMen() {
        for (int swings : new int[] {0, 1, 2, 9}) {
            for (int place = 0; place <= 7; place++) {
                PlumbLine x = new PlumbLine();
                x.hangs(swings, place);
                Boundary.due("in mind", x.then(1, 0), place);
                x.days(1);
                Boundary.due("with " + swings + " at " + place, x.count(2), place);
                x.days(60);
                Boundary.due("with " + swings + " at " + place + " later", x.count(2), place);
            }
        }
    }
}
