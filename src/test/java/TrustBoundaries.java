/** Promises 15 to 19: trust, who tells whom, props, pushes, and rows of men. */
final class TrustBoundaries {
    private TrustBoundaries() { }

    static void all() {
        Boundary.test(15, "`int trust(int what)`: MOST TRUSTED (what 0; -4), RIVALS (1), PLUMB (2; -4), EAST (3), DISCOUNT of "
            + "all (4). -1.", TrustBoundaries::trust);
        Boundary.test(15, "TRUSTED: by whom one is (bits); MOST TRUSTED, of several the least; -4.", TrustBoundaries::mostTrusted);
        Boundary.test(15, "RIVALS: how many twos of men trust neither one the other.", TrustBoundaries::rivals);
        Boundary.test(15, "PLUMB: the man least far from 0, of several the least; -4. EAST: how many LEAN above 0.",
            TrustBoundaries::plumbAndEast);
        Boundary.test(15, "CARD: DISCOUNT of one; of all.", TrustBoundaries::discountOfAll);
        Boundary.test(16, "`int tells(int m)`: TELLS (bits). -1.", TrustBoundaries::tellsRefused);
        Boundary.test(16, "TELLS: who trusts one, who trusts one of these, and so on (bits, itself not, but if it is told so).",
            TrustBoundaries::tells);
        Boundary.test(17, "`int fewestProps(int n)`: PROPS (bits; 0 none are needed; -4). -1.", TrustBoundaries::noProps);
        Boundary.test(17, "PROPS: the fewest men (bits, of several the least) to be PROPPED besides now so that there is no "
            + "CRASH in the next n DAYS (1 .. 30); -4 no.", TrustBoundaries::fewestProps);
        Boundary.test(17, "CRASHES are 1 more (999 at most),", TrustBoundaries::propsAtMostCrashes);
        Boundary.test(18, "`int push(int n)`: PUSH; -4. -1.", TrustBoundaries::pushDays);
        Boundary.test(18, "PUSH: the man and the LEAN (100 the man and LEAN and 45) which, so now, lets most be UPRIGHT behind n "
            + "DAYS (0 .. 20), more than else, of several the first; -4.", TrustBoundaries::push);
        Boundary.test(19, "`int right(int what)`: RIGHT ONE (what 0; -4), WALLS (1; -4), BALANCE (2, bits). -1.",
            TrustBoundaries::right);
        Boundary.test(19, "RIGHT ONE: the man from whose LEAN as 0 most others would be UPRIGHT now (each by his LEAN less that), "
            + "of several the least; -4.", TrustBoundaries::rightOne);
        Boundary.test(19, "WALLS: the most men (how many) who could be seated, in a row by numbers, some left out, so that LEANS "
            + "fall never; -4 nobody.", TrustBoundaries::walls);
        Boundary.test(19, "BALANCE: the most men (bits, of several sets the least) whose LEANS together are 0.",
            TrustBoundaries::balance);
    }

    /** Men of kind 0 at these leans. */
    private static PlumbLine at(int... leans) {
        PlumbLine x = new PlumbLine();
        for (int lean : leans) {
            Boundary.come(x, 0, 0, lean);
        }
        return x;
    }

    // ---- promise 15

    private static void trust() {
        Boundary.range(Boundary::busy, "trust(?)", -1, PlumbLine::trust, 0, 4);
        Boundary.range(PlumbLine::new, "trust(?)", -1, PlumbLine::trust, 0, 4);
        PlumbLine nobody = new PlumbLine();
        int[] none = {-4, 0, -4, 0, 0};
        PlumbLine one = at(7);
        int[] ofOne = {0, 0, 0, 1, 7};
        for (int what = 0; what <= 4; what++) {
            Boundary.due("trust(" + what + ") of nobody", nobody.trust(what), none[what]);
            Boundary.due("trust(" + what + ") of one", one.trust(what), ofOne[what]);
        }
    }

    private static void mostTrusted() {
        Boundary.due("none by anybody: the least", at(5, -5, 0).trust(0), 0);
        Boundary.due("5 and 6 by two: the least", at(20, 5, 6).trust(0), 1);
        Boundary.due("the last by two", at(20, 30, 9).trust(0), 2);
        Boundary.due("10 and 9 by two: the least", at(20, 10, 9).trust(0), 1);
        Boundary.due("two, where another is by one", at(9, 20, 20, -1, -1).trust(0), 0);
        Boundary.due("the last of eight by seven", at(45, 45, 45, 45, 45, 45, 45, 20).trust(0), 7);
        Boundary.due("all by seven: the least", at(1, 1, 1, 1, 1, 1, 1, 1).trust(0), 0);
        Boundary.due("bits of seven", at(1, 1, 1, 1, 1, 1, 1, 1).man(7, 5), 127);
    }

    private static void rivals() {
        Boundary.due("of two who trust one another", at(5, 15).trust(1), 0);
        Boundary.due("of two, one of whom trusts the other", at(5, 16).trust(1), 0);
        Boundary.due("the other way round", at(16, 5).trust(1), 0);
        Boundary.due("of two sides", at(5, -5).trust(1), 1);
        Boundary.due("of 0 and 1", at(0, 1).trust(1), 1);
        Boundary.due("of 0 and 0", at(0, 0).trust(1), 0);
        Boundary.due("of three", at(-1, 0, 1).trust(1), 3);
        Boundary.due("four by four", at(1, 2, 3, 4, -1, -2, -3, -4).trust(1), 16);
        Boundary.due("of eight at 0", at(0, 0, 0, 0, 0, 0, 0, 0).trust(1), 0);
    }

    private static void plumbAndEast() {
        Boundary.due("PLUMB of 2 and -1", at(2, -1).trust(2), 1);
        Boundary.due("PLUMB of 1 and -1, the least", at(1, -1).trust(2), 0);
        Boundary.due("PLUMB of -1 and 1, the least", at(-1, 1).trust(2), 0);
        Boundary.due("PLUMB of 0 and 0, the least", at(1, 0, 0).trust(2), 1);
        Boundary.due("PLUMB at 45 and -45", at(45, -45).trust(2), 0);
        Boundary.due("PLUMB at 45 and -44", at(45, -44).trust(2), 1);
        Boundary.due("PLUMB, the last", at(8, 7, 6, 5, 4, 3, 2, 1).trust(2), 7);
        Boundary.due("EAST at -1", at(-1).trust(3), 0);
        Boundary.due("EAST at 0", at(0).trust(3), 0);
        Boundary.due("EAST at 1", at(1).trust(3), 1);
        Boundary.due("EAST at 45 and -45", at(45, -45).trust(3), 1);
        Boundary.due("EAST of eight", at(1, 1, 1, 1, 1, 1, 1, 45).trust(3), 8);
    }

    private static void discountOfAll() {
        Boundary.due("of nobody", new PlumbLine().trust(4), 0);
        Boundary.due("of one of each KIND at 1, FIGURE 9", Boundary.men(0, 9, 1, 1, 9, -1, 2, 9, 1, 3, 9, -1, 4, 9, 1, 5, 9, -1,
            6, 9, 1, 7, 9, -1).trust(4), 1 + 0 + 2 + 1 + 3 + 0 + 0 + 10);
        Boundary.due("of eight Quakers at 45", Boundary.men(2, 0, 45, 2, 0, -45, 2, 0, 45, 2, 0, -45, 2, 0, 45, 2, 0, -45,
            2, 0, 45, 2, 0, -45).trust(4), 720);
    }

    // ---- promise 16

    private static void tellsRefused() {
        Boundary.range(Boundary::busy, "tells(?)", -1, PlumbLine::tells, 0, 4);
        Boundary.range(Boundary::full, "tells(?)", -1, PlumbLine::tells, 0, 7);
        Boundary.refusedEach(PlumbLine::new, "tells(?)", -1, PlumbLine::tells, -1, 0, 1);
    }

    private static void tells() {
        Boundary.due("of one alone nobody", at(5).tells(0), 0);
        Boundary.due("itself not: 16 trusts 5, but nobody 16", at(5, 16).tells(0), 0b10);
        Boundary.due("nobody tells 16", at(5, 16).tells(1), 0);
        Boundary.due("told so: 15 trusts 5, which trusts 15", at(5, 15).tells(0), 0b11);
        Boundary.due("told so, the other one", at(5, 15).tells(1), 0b11);
        Boundary.due("of one at 0 another at 0, and so itself", at(0, 1, 0).tells(0), 0b101);
        // each trusts the next one 10 farther, and whoever is nearer
        int all = 0b11111;
        PlumbLine chain = at(5, 15, 25, 35, 45);
        PlumbLine back = at(45, 35, 25, 15, 5);
        PlumbLine mixed = at(25, 5, 45, 15, 35);
        for (int m = 0; m < 5; m++) {
            Boundary.due("by 10 more, " + m, chain.tells(m), all);
            Boundary.due("by 10 more back, " + m, back.tells(m), all);
            Boundary.due("by 10 more mixed, " + m, mixed.tells(m), all);
        }
        PlumbLine broken = at(4, 15, 25, 35, 45);
        Boundary.due("11 more breaks it", broken.tells(4), 0b11110);
        Boundary.due("from the other end", broken.tells(0), 0b11110);
        PlumbLine west = at(-5, -15, -25, -35, -45, 5, 15, 0);
        Boundary.due("all of the west", west.tells(4), 0b00011111);
        Boundary.due("the east", west.tells(5), 0b01100000);
        Boundary.due("at 0 alone", west.tells(7), 0);
        PlumbLine eight = at(9, 9, 9, 9, 9, 9, 9, 9);
        for (int m = 0; m < 8; m++) {
            Boundary.due("all of eight", eight.tells(m), 255);
        }
    }

    // ---- promise 17

    private static void noProps() {
        Boundary.range(Boundary::busy, "fewestProps(?)", -1, PlumbLine::fewestProps, 1, 30);
        Boundary.range(PlumbLine::new, "fewestProps(?)", -1, PlumbLine::fewestProps, 1, 30);
        Boundary.due("none are needed by nobody", new PlumbLine().fewestProps(30), 0);
        Boundary.due("none are needed by one", at(45).fewestProps(30), 0);
        Boundary.due("none are needed by one of two", Boundary.men(1, 0, 9, 1, 9, 0).fewestProps(30), 0);
        PlumbLine x = Boundary.crashing(0);
        Boundary.due("no PROPS do", x.fewestProps(1), -4);
        x.pushes(1, 0);
        Boundary.due("none are needed at 0", x.fewestProps(1), 0);
    }

    private static void fewestProps() {
        for (int d = 14; d <= 38; d++) {
            for (int n : new int[] {1, d - 1, d, d + 1, 29, 30}) {
                if (n <= 30) {
                    Boundary.due("a CRASH on DAY " + d + ", for " + n, Boundary.leavingOn(d).fewestProps(n), n < d ? 0 : 1);
                }
            }
        }
        // brokers of 3 leave 6 on the fourth day; so many of them must stay as there lack to a half
        PlumbLine two = Boundary.men(4, 3, 0, 4, 3, 0);
        Boundary.due("for 3 DAYS", two.fewestProps(3), 0);
        Boundary.due("for 4 DAYS one, the least", two.fewestProps(4), 0b01);
        Boundary.due("for 30 DAYS one, the least", two.fewestProps(30), 0b01);
        PlumbLine last = Boundary.men(1, 0, 9, 1, 0, 9, 4, 3, 0, 4, 3, 0);
        Boundary.due("both of the last two", last.fewestProps(4), 0b1100);
        last.props(2);
        Boundary.due("one is PROPPED now", last.fewestProps(4), 0b1000);
        last.props(3);
        Boundary.due("both are PROPPED now", last.fewestProps(4), 0);
        last.pushes(3, 9);
        Boundary.due("PROPPED at 9: no more do", last.fewestProps(4), -4);
        PlumbLine eight = Boundary.men(4, 0, 0, 4, 0, 0, 4, 0, 0, 4, 0, 0, 4, 0, 0, 4, 0, 0, 4, 0, 0, 4, 0, 0);
        Boundary.due("four of eight, the least", eight.fewestProps(1), 0b1111);
        eight.pushes(0, 1);
        Boundary.due("four of the other seven", eight.fewestProps(1), 0b11110);
        eight.pushes(1, 1);
        eight.pushes(2, 1);
        eight.pushes(3, 1);
        Boundary.due("the last four", eight.fewestProps(1), 0b11110000);
        eight.pushes(4, 1);
        Boundary.due("three do not", eight.fewestProps(1), -4);
        Boundary.due("PROPPED stays", eight.count(6), 0);
        Boundary.due("DAY stays", eight.count(1), 0);
    }

    private static void propsAtMostCrashes() {
        PlumbLine x = Boundary.crashing(999);
        Boundary.due("a CRASH at 999 is one", x.fewestProps(1), -4);
        x.pushes(0, 0);
        Boundary.due("none at 999", x.fewestProps(30), 0);
        PlumbLine brokers = Boundary.men(4, 3, 45, 4, 3, 45);
        Boundary.pass(brokers, 999);
        brokers.pushes(0, 0);
        brokers.pushes(1, 0);
        Boundary.due("3 DAYS at 999", brokers.fewestProps(3), 0);
        Boundary.due("4 DAYS at 999", brokers.fewestProps(4), 0b01);
    }

    // ---- promise 18

    private static void pushDays() {
        Boundary.range(Boundary::busy, "push(?)", -1, PlumbLine::push, 0, 20);
        Boundary.range(PlumbLine::new, "push(?)", -1, PlumbLine::push, 0, 20);
        Boundary.due("of nobody", new PlumbLine().push(0), -4);
        // a Quaker is upright behind n days from n to the west on
        for (int n = 0; n <= 20; n++) {
            Boundary.due("push(" + n + ")", Boundary.men(2, 0, 45).push(n), 45 - n);
            Boundary.due("of the second, push(" + n + ")", Boundary.men(1, 9, 0, 2, 0, -45).push(n), 145 - n);
        }
        PlumbLine near = Boundary.men(2, 0, 20);
        Boundary.due("from 20 behind 19", near.push(19), 45 - 19);
        Boundary.due("from 20 behind 20 none", near.push(20), -4);
        near.pushes(0, 21);
        Boundary.due("from 21 behind 20", near.push(20), 45 - 20);
        Boundary.due("LEAN stays", near.lean(0), 21);
    }

    private static void push() {
        Boundary.due("UPRIGHT already", at(5).push(0), -4);
        Boundary.due("the least LEAN that does", at(6).push(0), 40);
        Boundary.due("from the west, too", at(-6).push(0), 40);
        Boundary.due("of several men the first", at(6, 6).push(0), 40);
        Boundary.due("the second", at(5, 6).push(0), 140);
        Boundary.due("the last of eight", at(0, 0, 0, 0, 0, 0, 0, 6).push(0), 740);
        Boundary.due("a PROPPED one, too", propped(at(6)).push(20), 40);
        // a broker of 0 is never upright behind a day, but draws the mean, and with it a man from 6 to 5
        PlumbLine east = Boundary.men(4, 0, 0, 0, 0, -6, 1, 0, -31, 1, 0, -31);
        Boundary.due("only by LEAN 45", east.push(1), 90);
        east.pushes(2, -30);
        Boundary.due("by LEAN 44, too", east.push(1), 89);
        east.pushes(2, -32);
        Boundary.due("not even by 45, but himself", east.push(1), 141);
        PlumbLine west = Boundary.men(4, 0, 0, 0, 0, 6, 1, 0, 31, 1, 0, 31);
        Boundary.due("by LEAN -45 at first", west.push(1), 0);
        west.pushes(2, 32);
        Boundary.due("not even by -45, but himself", west.push(1), 139);
        // the first at -1 would be one more; the broker at -45 lets two go from 6 to 5, by a mean of 35 by 6
        PlumbLine most = Boundary.men(2, 0, -10, 4, 0, 0, 0, 0, 6, 0, 0, 6, 1, 0, 39, 1, 0, 39);
        Boundary.due("most", most.push(1), 100);
        most.pushes(4, 40);
        Boundary.due("most by a later one, where the broker can't", most.push(1), 400);
    }

    private static PlumbLine propped(PlumbLine x) {
        x.props(0);
        return x;
    }

    // ---- promise 19

    private static void right() {
        Boundary.range(Boundary::busy, "right(?)", -1, PlumbLine::right, 0, 2);
        Boundary.range(PlumbLine::new, "right(?)", -1, PlumbLine::right, 0, 2);
        int[] nobody = {-4, -4, 0};
        int[] one = {0, 1, 0};
        for (int what = 0; what <= 2; what++) {
            Boundary.due("right(" + what + ") of nobody", new PlumbLine().right(what), nobody[what]);
            Boundary.due("right(" + what + ") of one", at(7).right(what), one[what]);
        }
    }

    private static void rightOne() {
        Boundary.due("5 apart: the least", at(10, 15).right(0), 0);
        Boundary.due("6 apart: the least", at(10, 16).right(0), 0);
        Boundary.due("5 from both", at(10, 15, 20).right(0), 1);
        Boundary.due("6 from one", at(10, 16, 20).right(0), 1);
        Boundary.due("5 from one, 6 from the other: the least of two", at(10, 15, 21).right(0), 0);
        Boundary.due("6 from all", at(10, 16, 22).right(0), 0);
        Boundary.due("by the other's KIND", Boundary.men(5, 0, 9, 0, 0, 0).right(0), 1);
        Boundary.due("9 from a SCRUBBER", Boundary.men(0, 0, 45, 5, 0, 9, 0, 0, 0).right(0), 2);
        Boundary.due("10 from a SCRUBBER", Boundary.men(0, 0, 45, 5, 0, 10, 0, 0, 0).right(0), 0);
        Boundary.due("90 apart", at(-45, 45, 45).right(0), 1);
        Boundary.due("the last of eight", at(5, -5, 4, -4, 20, -20, 30, 0).right(0), 7);
        Boundary.due("all others by each: the least", at(5, 5, 5, 5, 5, 5, 5, 5).right(0), 0);
        Boundary.due("himself not: a QUAKER by a QUAKER", Boundary.men(2, 0, 1, 2, 0, 2, 2, 0, 2).right(0), 1);
    }

    private static void walls() {
        Boundary.due("rising", at(1, 2).right(1), 2);
        Boundary.due("alike", at(2, 2).right(1), 2);
        Boundary.due("falling", at(2, 1).right(1), 1);
        Boundary.due("from -45 to 45", at(-45, 45).right(1), 2);
        Boundary.due("from 45 to -45", at(45, -45).right(1), 1);
        Boundary.due("one left out", at(1, 3, 2).right(1), 2);
        Boundary.due("the first left out", at(3, 1, 2).right(1), 2);
        Boundary.due("some left out", at(9, 1, 8, 2, 7, 3, 6, 4).right(1), 4);
        Boundary.due("eight rising", at(-4, -3, -2, -1, 0, 1, 2, 3).right(1), 8);
        Boundary.due("eight alike", at(7, 7, 7, 7, 7, 7, 7, 7).right(1), 8);
        Boundary.due("eight falling", at(3, 2, 1, 0, -1, -2, -3, -4).right(1), 1);
    }

    private static void balance() {
        Boundary.due("nobody of one at 1", at(1).right(2), 0);
        Boundary.due("nobody of one at -1", at(-1).right(2), 0);
        Boundary.due("one at 0", at(0).right(2), 1);
        Boundary.due("1 and -1", at(1, -1).right(2), 0b11);
        Boundary.due("1 and -2", at(1, -2).right(2), 0);
        Boundary.due("45 and -45", at(45, -45).right(2), 0b11);
        Boundary.due("three are more than the two ahead", at(2, -2, 1, 1).right(2), 0b1110);
        Boundary.due("three are more than two", at(2, -1, -2, -1).right(2), 0b1011);
        Boundary.due("of several sets the least", at(1, -1, 1, -1, 1).right(2), 0b1111);
        Boundary.due("all but one", at(9, 1, 2, -1, -2, 30, -9).right(2), 0b1011111);
        Boundary.due("all of eight", at(0, 0, 0, 0, 0, 0, 0, 0).right(2), 255);
        Boundary.due("all of eight, in two halves", at(45, 45, 45, 45, -45, -45, -45, -45).right(2), 255);
        Boundary.due("the last two", at(40, 41, 42, 43, 44, 45, 1, -1).right(2), 0b11000000);
    }
}
