/** Promises 1 and 3 to 8: a new object, one man, one more, his lean, his prop, and where the lead hangs. */
final class MenBoundaries {
    private static final String SEVERAL = "Answers of several REFUSALS are the first one as they are told at the call.";
    private static final String REFUSALS = "REFUSALS (answers; nothing changes): -1 no such one, one twice, a number out "
        + "of its range; -2 there is no room; -3 it is not as it must be; -4 none.";

    private MenBoundaries() { }

    static void all() {
        Boundary.test(1, "`PlumbLine()`: Nobody, THE LEAD at 0.", MenBoundaries::newObject);
        Boundary.test(1, "THE LEAD hangs at a PLACE (0 .. 7; 0 at first), SWINGS (0 .. 9; 0 at first). "
            + "CRASHES (0 .. 999; 0 at first). DAY (0 .. 999; 0 at first).", MenBoundaries::zeroAtFirst);
        Boundary.test(1, "An object is used for at most 512 calls after it has been made", MenBoundaries::lastCalls);
        Boundary.test(3, "`int lean(int m)`: LEAN of one. Refused as told: -1.", MenBoundaries::lean);
        Boundary.test(3, "Of calls that answer a LEAN, 1000000000 less them; of longs likewise.", MenBoundaries::leanRefused);
        Boundary.test(4, "`int man(int m, int what)`: Of one: KIND (what 0), FIGURE (1), 1 PROPPED (2), 1 UPRIGHT (3), "
            + "DISCOUNT (4), by whom he is TRUSTED (5, bits). -1.", MenBoundaries::man);
        Boundary.test(4, "UPRIGHT (how far from 0 he may be and still be so): MAN 5; BANKER FIGURE; QUAKER 0; CLERK 3 more "
            + "than a MAN; BROKER twice a BANKER's; SCRUBBER 9; SWINDLER as a BROKER; PARTNER as a CLERK.",
            MenBoundaries::upright);
        Boundary.test(4, "DISCOUNT (of a hundred, by LEAN l without sign): MAN l; BANKER half, cut; QUAKER twice; CLERK as a "
            + "MAN; BROKER 3 more than a BANKER; SCRUBBER 0; SWINDLER 0; PARTNER l and FIGURE.", MenBoundaries::discount);
        Boundary.test(4, "a man trusts another one whose LEAN is of the same side as his (both below 0, both above 0, or both "
            + "0) and no farther from 0 than 10 more than his own (without signs).", MenBoundaries::trusts);
        Boundary.test(5, "`int comes(int d, int lean)`: The one on SHELF d is a man more with a LEAN (-45 .. 45): the number. "
            + "-1, -11, -12 (a ROW), -2.", MenBoundaries::comes);
        Boundary.test(5, "MEN 0 .. 7 as they come (8 at most), of KINDS, each with a FIGURE (0 .. 9) and a LEAN (-45 .. 45; "
            + "below 0: to the west), PROPPED or not (not at first), in a PLACE: his number.", MenBoundaries::eightAtMost);
        Boundary.test(5, REFUSALS, MenBoundaries::noRoom);
        Boundary.test(5, SEVERAL, MenBoundaries::comesRefusedFirst);
        Boundary.test(6, "`int pushes(int m, int lean)`: LEAN becomes another (-45 .. 45): the old one. Refused as told: -1.",
            MenBoundaries::pushes);
        Boundary.test(7, "`int props(int m)`: He is PROPPED, or not any more: 1, 0. -1.", MenBoundaries::props);
        Boundary.test(8, "`int hangs(int swings, int place)`: SWINGS (0 .. 9), PLACE of THE LEAD become others: 10 the old "
            + "SWINGS and the old PLACE. -1.", MenBoundaries::hangs);
    }

    // ---- promise 1

    private static void newObject() {
        PlumbLine x = new PlumbLine();
        for (int what = 0; what <= 6; what++) {
            Boundary.due("count(" + what + ")", x.count(what), 0);
        }
        Boundary.due("lean(0)", x.lean(0), Boundary.LEAN_REFUSED);
        Boundary.due("man(0, 0)", x.man(0, 0), -1);
        Boundary.due("then(60, 0)", x.then(60, 0), 0);
        Boundary.due("then(60, 2)", x.then(60, 2), 0);
        Boundary.due("crash(0)", x.crash(0), -4);
        Boundary.due("crash(1)", x.crash(1), 0);
        Boundary.due("years(20, 1, 0)", x.years(20, 1, 0), 0);
        Boundary.due("years(20, 1, 1)", x.years(20, 1, 1), 0);
        Boundary.due("restore()", x.restore(), -3);
        PlumbLine other = Boundary.busy();
        Boundary.due("another one's men", other.count(0), 5);
        Boundary.due("its men, all the same", new PlumbLine().count(0), 0);
        Boundary.due("nor in the first", x.count(0), 0);
    }

    private static void zeroAtFirst() {
        Boundary.due("10 SWINGS and PLACE", new PlumbLine().hangs(9, 7), 0);
        Boundary.due("CRASHES", new PlumbLine().count(4), 0);
        Boundary.due("DAY", new PlumbLine().image(), 0);
        PlumbLine x = new PlumbLine();
        Boundary.due("the first of days", x.days(1), 0);
        Boundary.due("DAY", x.count(1), 1);
        Boundary.due("PLACE", x.count(2), 0);
        Boundary.due("SWINGS", x.count(3), 0);
        Boundary.due("CRASHES", x.count(4), 0);
    }

    private static void lastCalls() {
        PlumbLine x = Boundary.men(3, 4, 20);
        for (int call = 4; call <= 508; call++) {
            x.pushes(0, call % 46);
        }
        Boundary.due("call 509", x.lean(0), 508 % 46);
        Boundary.due("call 510", x.days(1), 1);
        Boundary.due("call 511", x.count(1), 1);
        Boundary.due("call 512", x.lean(0), 508 % 46);
    }

    // ---- promise 3

    private static void lean() {
        Boundary.range(Boundary::busy, "lean(?)", Boundary.LEAN_REFUSED, PlumbLine::lean, 0, 4);
        Boundary.range(Boundary::full, "lean(?)", Boundary.LEAN_REFUSED, PlumbLine::lean, 0, 7);
        Boundary.refusedEach(PlumbLine::new, "lean(?)", Boundary.LEAN_REFUSED, PlumbLine::lean, -1, 0, 1);
        PlumbLine x = Boundary.full();
        Boundary.due("the first", x.lean(0), -45);
        Boundary.due("the second", x.lean(1), 45);
        Boundary.due("the last", x.lean(7), -1);
    }

    private static void leanRefused() {
        PlumbLine x = Boundary.men(0, 0, -1, 0, 0, -2, 0, 0, -45);
        Boundary.due("a LEAN of -1", x.lean(0), -1);
        Boundary.due("a LEAN of -2", x.lean(1), -2);
        Boundary.due("a LEAN of -45", x.lean(2), -45);
        Boundary.due("-1", x.lean(3), 1000000000 - -1);
        Boundary.due("an old LEAN of -1", x.pushes(0, -1), -1);
        Boundary.due("a LEAN in mind", x.leanThen(0, 0), -1);
        Boundary.due("pushes", x.pushes(3, 0), 1000000001L);
        Boundary.due("leanThen", x.leanThen(3, 0), 1000000001L);
        Boundary.due("shocks", x.shocks(3, 0, 2, 0), 1000000001L);
        Boundary.due("mean", x.mean(2), 1000000001L);
    }

    // ---- promise 4

    private static void man() {
        for (int what = 0; what <= 5; what++) {
            int asked = what;
            Boundary.range(Boundary::busy, "man(?, " + what + ")", -1, (x, m) -> x.man(m, asked), 0, 4);
        }
        Boundary.range(Boundary::full, "man(?, 0)", -1, (x, m) -> x.man(m, 0), 0, 7);
        Boundary.range(Boundary::busy, "man(4, ?)", -1, (x, what) -> x.man(4, what), 0, 5);
        Boundary.refusedEach(PlumbLine::new, "man(0, ?)", -1, (x, what) -> x.man(0, what), 0, 5);
        PlumbLine x = Boundary.full();
        int[] kinds = {0, 1, 2, 3, 4, 5, 6, 7};
        int[] figures = {0, 9, 0, 1, 2, 3, 4, 5};
        int[] uprights = {0, 0, 1, 1, 0, 0, 1, 1};
        int[] discounts = {45, 22, 0, 7, 7, 0, 0, 6};
        int[] trusted = {0, 0, 0, 0b01100010, 0b10000001, 0b00001010, 0b00101010, 0b00010001};
        for (int m = 0; m < 8; m++) {
            Boundary.due("KIND of " + m, x.man(m, 0), kinds[m]);
            Boundary.due("FIGURE of " + m, x.man(m, 1), figures[m]);
            Boundary.due("PROPPED " + m, x.man(m, 2), m == 7 ? 1 : 0);
            Boundary.due("UPRIGHT " + m, x.man(m, 3), uprights[m]);
            Boundary.due("DISCOUNT of " + m, x.man(m, 4), discounts[m]);
            Boundary.due("TRUSTED " + m, x.man(m, 5), trusted[m]);
        }
    }

    private static int farthestUpright(int kind, int figure) {
        return new int[] {5, figure, 0, 5 + 3, 2 * figure, 9, 2 * figure, 5 + 3}[kind];
    }

    private static void upright() {
        for (int kind = 0; kind < 8; kind++) {
            for (int figure = 0; figure <= 9; figure++) {
                PlumbLine x = Boundary.men(kind, figure, 0);
                int far = farthestUpright(kind, figure);
                for (int lean = -45; lean <= 45; lean++) {
                    x.pushes(0, lean);
                    int want = lean >= -far && lean <= far ? 1 : 0;
                    String of = " of KIND " + kind + " with " + figure + " at " + lean;
                    Boundary.due("man(0, 3)" + of, x.man(0, 3), want);
                    Boundary.due("count(5)" + of, x.count(5), want);
                    Boundary.due("then(0, 3)" + of, x.then(0, 3), want);
                }
            }
        }
    }

    private static void discount() {
        for (int kind = 0; kind < 8; kind++) {
            for (int figure = 0; figure <= 9; figure++) {
                PlumbLine x = Boundary.men(kind, figure, 0);
                for (int lean = -45; lean <= 45; lean++) {
                    x.pushes(0, lean);
                    int l = lean < 0 ? -lean : lean;
                    int want = new int[] {l, l / 2, 2 * l, l, l / 2 + 3, 0, 0, l + figure}[kind];
                    String of = " of KIND " + kind + " with " + figure + " at " + lean;
                    Boundary.due("man(0, 4)" + of, x.man(0, 4), want);
                    Boundary.due("trust(4)" + of, x.trust(4), want);
                }
            }
        }
        int[] cut = {0, 0, 1, 1, 2, 22, 22};
        int[] leans = {0, 1, 2, 3, 4, 44, 45};
        for (int i = 0; i < leans.length; i++) {
            Boundary.due("half of " + leans[i], Boundary.men(1, 0, leans[i]).man(0, 4), cut[i]);
            Boundary.due("half of " + -leans[i], Boundary.men(1, 0, -leans[i]).man(0, 4), cut[i]);
            Boundary.due("half and 3", Boundary.men(4, 0, -leans[i]).man(0, 4), cut[i] + 3);
        }
    }

    private static void trusts() {
        // a man at 5 trusts up to 15, at 1 up to 11, at 35 up to 45, and whoever is nearer
        int[][] two = {{5, 14, 1}, {5, 15, 1}, {5, 16, 0}, {-5, -15, 1}, {-5, -16, 0}, {1, 11, 1}, {1, 12, 0}, {35, 45, 1},
            {34, 45, 0}, {45, 1, 1}, {0, 0, 1}, {0, 1, 0}, {0, -1, 0}, {1, 0, 0}, {-1, 0, 0}, {1, -1, 0}, {-1, 1, 0},
            {-45, -1, 1}, {5, -5, 0}};
        for (int[] leans : two) {
            PlumbLine x = Boundary.men(0, 0, leans[1], 0, 0, leans[0]);
            Boundary.due(leans[0] + " trusts " + leans[1], x.man(0, 5), 2 * leans[2]);
        }
        for (int own = -45; own <= 45; own++) {
            PlumbLine x = Boundary.men(0, 0, 0, 6, 9, own);
            for (int other = -45; other <= 45; other++) {
                x.pushes(0, other);
                boolean sameSide = own < 0 && other < 0 || own > 0 && other > 0 || own == 0 && other == 0;
                boolean so = sameSide && Math.abs(other) <= Math.abs(own) + 10;
                Boundary.due(own + " trusts " + other, x.man(0, 5), so ? 2 : 0);
            }
        }
        Boundary.due("another one, not himself", Boundary.men(0, 0, 5).man(0, 5), 0);
    }

    // ---- promise 5

    private static void comes() {
        Boundary.range(Boundary::busy, "comes(4, ?)", -1, (x, lean) -> x.comes(4, lean), -45, 45);
        Boundary.refusedEach(Boundary::busy, "comes(?, 0)", -1, (x, d) -> x.comes(d, 0), Boundary.MIN, -1, 8, 9,
            260, Boundary.MAX);
        Boundary.refused(Boundary::busy, "comes of nothing", -11, x -> x.comes(5, 0));
        Boundary.refusedEach(Boundary::busy, "comes(?, 0), a ROW", -12, (x, d) -> x.comes(d, 0), 0, 1, 2, 3, 6);
        for (int lean = -45; lean <= 45; lean++) {
            PlumbLine x = new PlumbLine();
            x.keep(7, 1, 7, 9);
            Boundary.due("comes(7, " + lean + ")", x.comes(7, lean), 0);
            Boundary.due("his LEAN", x.lean(0), lean);
            Boundary.due("the one taken stays there", x.toss(7), 9);
            Boundary.due("comes again", x.comes(7, -lean), 1);
        }
    }

    private static void eightAtMost() {
        for (int figure = 0; figure <= 9; figure++) {
            PlumbLine x = new PlumbLine();
            for (int m = 0; m < 8; m++) {
                x.keep(m, 1, m, figure);
                Boundary.due("comes(" + m + ", -45)", x.comes(m, -45), m);
                Boundary.due("how many", x.count(0), m + 1);
                Boundary.due("KIND", x.man(m, 0), m);
                Boundary.due("FIGURE", x.man(m, 1), figure);
                Boundary.due("not PROPPED at first", x.man(m, 2), 0);
                x.props(m);
            }
            Boundary.due("a ninth", x.comes(0, 0), -2);
            Boundary.due("eight", x.count(0), 8);
            Boundary.due("all PROPPED", x.count(6), 255);
            Boundary.due("nobody behind the eighth", x.lean(8), Boundary.LEAN_REFUSED);
        }
        PlumbLine later = Boundary.men(0, 0, 0);
        later.image();
        Boundary.come(later, 0, 0, 0);
        later.props(1);
        later.restore();
        Boundary.come(later, 0, 0, 0);
        Boundary.due("nor is one in the place of a PROPPED one", later.man(1, 2), 0);
    }

    private static void noRoom() {
        Boundary.refused(Boundary::full, "comes(4, 0) of a ninth", -2, x -> x.comes(4, 0));
        Boundary.refused(Boundary::full, "comes(4, 45) of a ninth", -2, x -> x.comes(4, 45));
        PlumbLine seven = Boundary.men(0, 0, 1, 0, 0, 2, 0, 0, 3, 0, 0, 4, 0, 0, 5, 0, 0, 6, 0, 0, 7);
        seven.keep(0, 1, 3, 3);
        Boundary.due("comes(0, 8) of an eighth", seven.comes(0, 8), 7);
        Boundary.due("comes(0, 9) of a ninth", seven.comes(0, 9), -2);
        Boundary.due("the eighth is as he came", seven.lean(7), 8);
    }

    private static void comesRefusedFirst() {
        Boundary.refused(Boundary::full, "comes(5, 46): -1 ahead of -11 and -2", -1, x -> x.comes(5, 46));
        Boundary.refused(Boundary::full, "comes(3, -46): -1 ahead of -12 and -2", -1, x -> x.comes(3, -46));
        Boundary.refused(Boundary::full, "comes(4, 46): -1 ahead of -2", -1, x -> x.comes(4, 46));
        Boundary.refused(Boundary::full, "comes(8, 0): -1 ahead of -2", -1, x -> x.comes(8, 0));
        Boundary.refused(Boundary::full, "comes(5, 0): -11 ahead of -2", -11, x -> x.comes(5, 0));
        Boundary.refused(Boundary::full, "comes(3, 0): -12 ahead of -2", -12, x -> x.comes(3, 0));
    }

    // ---- promises 6 to 8

    private static void pushes() {
        Boundary.range(Boundary::busy, "pushes(2, ?)", Boundary.LEAN_REFUSED, (x, lean) -> x.pushes(2, lean), -45, 45);
        Boundary.range(Boundary::busy, "pushes(?, 3)", Boundary.LEAN_REFUSED, (x, m) -> x.pushes(m, 3), 0, 4);
        Boundary.range(Boundary::full, "pushes(?, -45)", Boundary.LEAN_REFUSED, (x, m) -> x.pushes(m, -45), 0, 7);
        Boundary.refused(PlumbLine::new, "pushes(0, 0)", Boundary.LEAN_REFUSED, x -> x.pushes(0, 0));
        PlumbLine x = Boundary.men(0, 0, -45, 0, 0, 7);
        int old = 7;
        for (int lean = -45; lean <= 45; lean++) {
            Boundary.due("pushes(1, " + lean + ")", x.pushes(1, lean), old);
            Boundary.due("the new one", x.lean(1), lean);
            old = lean;
        }
        Boundary.due("the other one stays", x.lean(0), -45);
        x.props(1);
        Boundary.due("a PROPPED one, too", x.pushes(1, -45), 45);
        Boundary.due("the new one", x.lean(1), -45);
    }

    private static void props() {
        Boundary.range(Boundary::busy, "props(?)", -1, PlumbLine::props, 0, 4);
        Boundary.range(Boundary::full, "props(?)", -1, PlumbLine::props, 0, 7);
        Boundary.refusedEach(PlumbLine::new, "props(?)", -1, PlumbLine::props, -1, 0, 1);
        for (int m = 0; m < 8; m++) {
            PlumbLine x = Boundary.full();
            x.props(7);
            Boundary.due("nobody", x.count(6), 0);
            Boundary.due("props(" + m + ")", x.props(m), 1);
            Boundary.due("bits", x.count(6), 1 << m);
            Boundary.due("props(" + m + ") again", x.props(m), 0);
            Boundary.due("nobody", x.count(6), 0);
            Boundary.due("props(" + m + ") once more", x.props(m), 1);
        }
    }

    private static void hangs() {
        Boundary.range(Boundary::busy, "hangs(?, 3)", -1, (x, swings) -> x.hangs(swings, 3), 0, 9);
        Boundary.range(Boundary::busy, "hangs(3, ?)", -1, (x, place) -> x.hangs(3, place), 0, 7);
        Boundary.refused(Boundary::busy, "hangs(10, 8)", -1, x -> x.hangs(10, 8));
        Boundary.range(PlumbLine::new, "hangs(9, ?)", -1, (x, place) -> x.hangs(9, place), 0, 7);
        PlumbLine x = new PlumbLine();
        int old = 0;
        for (int swings = 0; swings <= 9; swings++) {
            for (int place = 0; place <= 7; place++) {
                Boundary.due("hangs(" + swings + ", " + place + ")", x.hangs(swings, place), old);
                Boundary.due("SWINGS", x.count(3), swings);
                Boundary.due("PLACE", x.count(2), place);
                old = 10 * swings + place;
            }
        }
    }
}
