/** Promises 28 to 37: the image, what is told, and the shelves. */
final class ShelfBoundaries {
    private static final String SEVERAL = "Answers of several REFUSALS are the first one as they are told at the call.";
    private static final String ROWS = "A ROW has a SORT (0 bytes, 1 shorts, 2 ints) and 0 .. 100 elements, 0 at first; what is "
        + "put in keeps its lowest bits.";
    private static final String REFUSALS = "Their REFUSALS: -11 nothing is held where something is wanted; -12 it is of another "
        + "kind; -13 a place that isn't there (a number or a size that isn't as told, too); -14 a size below 0; -15 a FAILURE "
        + "that is none.";
    private static final int[] FAR = {Boundary.MIN, -257, -1, 8, 9, 257, Boundary.MAX};

    private ShelfBoundaries() { }

    static void all() {
        Boundary.test(28, "`int image()`: THE IMAGE is taken: DAY.", ShelfBoundaries::image);
        Boundary.test(28, "THE IMAGE: all that there is, but SHELVES (and THE IMAGE); RESTORED all is as it was then.",
            ShelfBoundaries::allThereIs);
        Boundary.test(29, "`int restore()`: THE IMAGE is RESTORED: DAY. -3 there is none.", ShelfBoundaries::restore);
        Boundary.test(29, "The ROW of a text, and what is taken from a SHELF, stay there; when THE IMAGE is RESTORED, SHELVES "
            + "stay as they are.", ShelfBoundaries::shelvesStay);
        Boundary.test(30, "`int count(int what)`: 0 men, 1 DAY, 2 where THE LEAD is, 3 SWINGS, 4 CRASHES, 5 who is UPRIGHT (bits), "
            + "6 who is PROPPED (bits); -1 for others.", ShelfBoundaries::count);
        Boundary.test(31, "SHELVES 0 .. 7 each hold nothing (at first), a KIND of man, a ROW.", ShelfBoundaries::nothingAtFirst);
        Boundary.test(31, "`int keep(int d, int what, int k, int figure)`: SHELF d gets: what = 0 nothing (the others do not "
            + "matter); 1 a KIND of man of KIND k with a FIGURE: 0. -1.", ShelfBoundaries::keep);
        Boundary.test(32, "`int row(int d, int sort, int n)`: SHELF d gets a ROW of a SORT: 0. -1 (n above 100); -14.",
            ShelfBoundaries::row);
        Boundary.test(32, ROWS, ShelfBoundaries::zeroAtFirst);
        Boundary.test(32, SEVERAL, ShelfBoundaries::rowRefusedFirst);
        Boundary.test(33, "`int put(int d, int i, int v)`: Element i of the ROW becomes v: 0. -1, -11, -12, -13.",
            ShelfBoundaries::put);
        Boundary.test(33, ROWS, ShelfBoundaries::lowestBits);
        Boundary.test(33, SEVERAL, ShelfBoundaries::putRefusedFirst);
        Boundary.test(34, "`long element(int d, int i) throws IllegalArgumentException, IllegalStateException`: Element i of the "
            + "ROW. IllegalArgumentException: no such SHELF; IllegalStateException: no ROW, no such place.",
            ShelfBoundaries::element);
        Boundary.test(35, "`int copy(int d, int i, int e, int j, int n)`: n elements of the ROW in SHELF d from i on come to that in "
            + "SHELF e from j on: n. -1, -11 (either), -12 (no ROWS of one SORT), -13 (n below 0, too).", ShelfBoundaries::copy);
        Boundary.test(35, REFUSALS, ShelfBoundaries::copyRefused);
        Boundary.test(35, SEVERAL, ShelfBoundaries::copyRefusedFirst);
        Boundary.test(36, "`int cost(int d)`: COST of the one on SHELF d: MAN 3; BANKER FIGURE more; QUAKER 1; CLERK 2; BROKER twice "
            + "a BANKER's; SCRUBBER 0; SWINDLER as a BROKER; PARTNER 4 more than a CLERK. -1, -11, -12 (a ROW).",
            ShelfBoundaries::cost);
        Boundary.test(37, "`int toss(int d)`: The FAILURE of the one on SHELF d is thrown, and caught: its FIGURE; of BANKERS 100 "
            + "more (of BROKERS, too); of SWINDLERS 200 plus their COST, in place of all that (FIGURE, too). -1, -11, -12 (a ROW); "
            + "-15: QUAKERS, SCRUBBERS, and any with FIGURE 0, have none.", ShelfBoundaries::toss);
    }

    /** The element, or for what is thrown the least long, or the least but one. */
    private static long elementOr(PlumbLine x, int d, int i) {
        try {
            return x.element(d, i);
        } catch (IllegalArgumentException thrown) {
            return thrown.getClass() == IllegalArgumentException.class ? Long.MIN_VALUE : 0;
        } catch (IllegalStateException thrown) {
            return thrown.getClass() == IllegalStateException.class ? Long.MIN_VALUE + 1 : 0;
        }
    }

    // ---- promises 28 to 30

    private static void image() {
        for (int day : new int[] {0, 1, 998, 999}) {
            PlumbLine x = Boundary.onDay(day);
            Boundary.due("image() on DAY " + day, x.image(), day);
            Boundary.due("DAY stays", x.count(1), day);
            Boundary.due("restore() to DAY " + day, x.restore(), day);
        }
        PlumbLine x = new PlumbLine();
        x.image();
        x.days(2);
        Boundary.due("a later one", x.image(), 2);
        x.days(3);
        Boundary.due("is in place of the first", x.restore(), 2);
    }

    private static void allThereIs() {
        PlumbLine x = Boundary.full();
        x.hangs(9, 7);
        x.days(2);
        Boundary.due("image()", x.image(), 2);
        int[] was = new int[7];
        int[] leans = new int[8];
        for (int i = 0; i < 8; i++) {
            leans[i] = x.lean(i);
            was[Math.min(i, 6)] = x.count(Math.min(i, 6));
        }
        for (int m = 0; m < 8; m++) {
            x.pushes(m, 40 - m);
            x.props(m);
        }
        x.days(60);
        x.hangs(3, 3);
        Boundary.due("restore()", x.restore(), 2);
        for (int what = 0; what <= 6; what++) {
            Boundary.due("count(" + what + ")", x.count(what), was[what]);
        }
        for (int m = 0; m < 8; m++) {
            Boundary.due("LEAN of " + m, x.lean(m), leans[m]);
        }
        PlumbLine nobody = new PlumbLine();
        nobody.image();
        Boundary.come(nobody, 3, 4, 5);
        Boundary.due("of nobody", nobody.restore(), 0);
        Boundary.due("men", nobody.count(0), 0);
        Boundary.due("the first again", Boundary.come(nobody, 6, 1, 2).man(0, 0), 6);
        nobody.restore();
        Boundary.due("men again", nobody.count(0), 0);
        PlumbLine crashed = Boundary.crashing(3);
        crashed.image();
        crashed.days(5);
        crashed.restore();
        Boundary.due("CRASHES", crashed.count(4), 3);
    }

    private static void restore() {
        Boundary.refused(PlumbLine::new, "restore()", -3, PlumbLine::restore);
        Boundary.refused(Boundary::full, "restore()", -3, PlumbLine::restore);
        Boundary.refused(() -> Boundary.onDay(999), "restore() on 999", -3, PlumbLine::restore);
        PlumbLine x = Boundary.onDay(5);
        x.image();
        x.days(1);
        Boundary.due("restore()", x.restore(), 5);
        Boundary.due("restore() of what was restored", x.restore(), 5);
        x.days(4);
        Boundary.due("restore() once more", x.restore(), 5);
    }

    private static void shelvesStay() {
        PlumbLine same = Boundary.busy();
        String shelves = Trace.ofShelves(same);
        same.image();
        Boundary.due("SHELVES behind image()", Trace.ofShelves(same).equals(shelves) ? 1 : 0, 1);
        same.restore();
        Boundary.due("SHELVES behind restore()", Trace.ofShelves(same).equals(shelves) ? 1 : 0, 1);
        PlumbLine x = Boundary.busy();
        x.keep(5, 1, 1, 8);
        x.row(7, 1, 1);
        x.keep(4, 0, 0, 0);
        x.put(0, 1, '7');
        Boundary.due("restore()", x.restore(), 3);
        Boundary.due("a KIND of later", x.cost(5), 11);
        Boundary.due("a ROW of later", x.cost(7), -12);
        Boundary.due("nothing, later", x.cost(4), -11);
        Boundary.due("an element of later", elementOr(x, 0, 1), '7');
        PlumbLine taken = new PlumbLine();
        taken.keep(0, 1, 4, 3);
        taken.comes(0, 9);
        Boundary.due("what is taken stays", taken.toss(0), 103);
        Boundary.due("and can be taken again", taken.comes(0, 9), 1);
    }

    private static void count() {
        Boundary.range(Boundary::busy, "count(?)", -1, PlumbLine::count, 0, 6);
        Boundary.range(PlumbLine::new, "count(?)", -1, PlumbLine::count, 0, 6);
        PlumbLine x = Boundary.full();
        int[] counts = {8, 0, 0, 0, 0, 0b11001100, 0b10000000};
        for (int what = 0; what <= 6; what++) {
            Boundary.due("count(" + what + ") of eight", x.count(what), counts[what]);
        }
        x.hangs(9, 7);
        Boundary.due("the last PLACE", x.count(2), 7);
        Boundary.due("the most SWINGS", x.count(3), 9);
        Boundary.due("the last DAY", Boundary.onDay(999).count(1), 999);
        Boundary.due("the most CRASHES", Boundary.crashing(999).count(4), 999);
    }

    // ---- promises 31 and 32

    private static void nothingAtFirst() {
        PlumbLine x = new PlumbLine();
        for (int d = 0; d < 8; d++) {
            Boundary.due("cost(" + d + ")", x.cost(d), -11);
            Boundary.due("toss(" + d + ")", x.toss(d), -11);
            Boundary.due("city(" + d + ")", x.city(d), -11);
            Boundary.due("comes(" + d + ", 0)", x.comes(d, 0), -11);
            Boundary.due("put(" + d + ", 0, 0)", x.put(d, 0, 0), -11);
            Boundary.due("copy", x.copy(d, 0, 7 - d, 0, 0), -11);
            Boundary.due("forged(" + d + ")", x.forged(d), -11);
            Boundary.due("judge(" + d + ")", x.judge(d), -11);
            Boundary.due("whereHung(" + d + ", 0)", x.whereHung(d, 0), -11);
            Boundary.due("element(" + d + ", 0)", elementOr(x, d, 0), Long.MIN_VALUE + 1);
        }
        Boundary.due("cost(-1)", x.cost(-1), -1);
        Boundary.due("cost(8)", x.cost(8), -1);
    }

    private static void keep() {
        Boundary.range(Boundary::busy, "keep(?, 1, 3, 4)", -1, (x, d) -> x.keep(d, 1, 3, 4), 0, 7);
        Boundary.range(Boundary::busy, "keep(?, 0, 3, 4)", -1, (x, d) -> x.keep(d, 0, 3, 4), 0, 7);
        Boundary.range(Boundary::busy, "keep(4, ?, 3, 4)", -1, (x, what) -> x.keep(4, what, 3, 4), 0, 1);
        Boundary.range(Boundary::busy, "keep(4, 1, ?, 4)", -1, (x, k) -> x.keep(4, 1, k, 4), 0, 7);
        Boundary.range(Boundary::busy, "keep(4, 1, 3, ?)", -1, (x, figure) -> x.keep(4, 1, 3, figure), 0, 9);
        Boundary.range(Boundary::busy, "keep(0, 1, 3, ?) on a ROW", -1, (x, figure) -> x.keep(0, 1, 3, figure), 0, 9);
        int[] any = {Boundary.MIN, -1, 0, 7, 8, 9, 10, Boundary.MAX};
        for (int number : any) {
            for (int d : new int[] {1, 4, 5}) {
                PlumbLine x = Boundary.busy();
                Boundary.due("nothing, with KIND " + number, x.keep(d, 0, number, 4), 0);
                Boundary.due("nothing held", x.cost(d), -11);
                PlumbLine y = Boundary.busy();
                Boundary.due("nothing, with FIGURE " + number, y.keep(d, 0, 3, number), 0);
                Boundary.due("nothing held", y.cost(d), -11);
            }
        }
        for (int k = 0; k < 8; k++) {
            for (int figure = 0; figure <= 9; figure++) {
                PlumbLine x = new PlumbLine();
                Boundary.due("keep(" + k + ", 1, " + k + ", " + figure + ")", x.keep(k, 1, k, figure), 0);
                x.comes(k, 0);
                Boundary.due("KIND", x.man(0, 0), k);
                Boundary.due("FIGURE", x.man(0, 1), figure);
                Boundary.due("the next SHELF", x.cost(k == 7 ? 0 : k + 1), -11);
            }
        }
    }

    private static void row() {
        for (int sort = 0; sort <= 2; sort++) {
            int one = sort;
            Boundary.range(Boundary::busy, "row(?, " + sort + ", 100)", -1, (x, d) -> x.row(d, one, 100), 0, 7);
            Boundary.refusedEach(Boundary::busy, "row(1, " + sort + ", ?)", -1, (x, n) -> x.row(1, one, n), 101, 102, 356,
                Boundary.MAX);
            Boundary.refusedEach(Boundary::busy, "row(1, " + sort + ", ?)", -14, (x, n) -> x.row(1, one, n), Boundary.MIN, -256,
                -2, -1);
            Boundary.refused(Boundary::busy, "row(5, " + sort + ", 101) on nothing", -1, x -> x.row(5, one, 101));
            Boundary.refused(Boundary::busy, "row(4, " + sort + ", -1) on a KIND", -14, x -> x.row(4, one, -1));
            for (int n : new int[] {0, 1, 2, 99, 100}) {
                PlumbLine x = Boundary.busy();
                Boundary.due("row(6, " + sort + ", " + n + ")", x.row(6, sort, n), 0);
                Boundary.due("the last place", x.put(6, n - 1, 1), n == 0 ? -13 : 0);
                Boundary.due("the one behind", x.put(6, n, 1), -13);
                Boundary.due("no KIND", x.cost(6), -12);
                Boundary.due("its SORT", x.copy(6, 0, sort == 2 ? 2 : sort == 1 ? 1 : 0, 0, 0), 0);
            }
        }
        Boundary.range(Boundary::busy, "row(1, ?, 3)", -1, (x, sort) -> x.row(1, sort, 3), 0, 2);
        Boundary.range(Boundary::busy, "row(4, ?, 0)", -1, (x, sort) -> x.row(4, sort, 0), 0, 2);
    }

    private static void zeroAtFirst() {
        for (int sort = 0; sort <= 2; sort++) {
            PlumbLine x = new PlumbLine();
            x.row(3, sort, 100);
            for (int i = 0; i < 100; i++) {
                Boundary.due("element " + i, elementOr(x, 3, i), 0);
                x.put(3, i, i + 1);
            }
            x.row(3, sort, 100);
            for (int i = 0; i < 100; i++) {
                Boundary.due("element " + i + " of another ROW", elementOr(x, 3, i), 0);
            }
            x.put(3, 1, 7);
            x.row(3, sort, 1);
            x.row(3, sort, 2);
            Boundary.due("behind a shorter ROW", elementOr(x, 3, 1), 0);
            x.put(3, 1, 7);
            x.keep(3, 1, 0, 0);
            x.row(3, sort, 2);
            Boundary.due("behind a KIND", elementOr(x, 3, 1), 0);
        }
    }

    private static void rowRefusedFirst() {
        Boundary.refused(Boundary::busy, "row(8, 0, -1): -1 ahead of -14", -1, x -> x.row(8, 0, -1));
        Boundary.refused(Boundary::busy, "row(-1, 0, -1): -1 ahead of -14", -1, x -> x.row(-1, 0, -1));
        Boundary.refused(Boundary::busy, "row(0, 3, -1): -1 ahead of -14", -1, x -> x.row(0, 3, -1));
        Boundary.refused(Boundary::busy, "row(0, -1, -1): -1 ahead of -14", -1, x -> x.row(0, -1, -1));
        Boundary.refused(Boundary::busy, "row(8, 3, 101)", -1, x -> x.row(8, 3, 101));
    }

    // ---- promises 33 and 34

    private static void put() {
        Boundary.refusedEach(Boundary::busy, "put(?, 0, 5)", -1, (x, d) -> x.put(d, 0, 5), FAR);
        Boundary.refused(Boundary::busy, "put(5, 0, 5) on nothing", -11, x -> x.put(5, 0, 5));
        Boundary.refusedEach(Boundary::busy, "put(?, 0, 5) on a KIND", -12, (x, d) -> x.put(d, 0, 5), 4, 7);
        int[] shelves = {0, 1, 2, 6};
        int[] sizes = {6, 3, 2, 20};
        for (int s = 0; s < shelves.length; s++) {
            int d = shelves[s];
            Boundary.range(Boundary::busy, "put(" + d + ", ?, 5)", -13, (x, i) -> x.put(d, i, 5), 0, sizes[s] - 1);
        }
        Boundary.refusedEach(Boundary::busy, "put(3, ?, 5), no element", -13, (x, i) -> x.put(3, i, 5), -1, 0, 1);
        PlumbLine x = Boundary.shelve(new PlumbLine(), 7, 2, 1, 2, 3);
        Boundary.due("put(7, 1, 9)", x.put(7, 1, 9), 0);
        Boundary.due("the one ahead", elementOr(x, 7, 0), 1);
        Boundary.due("the one put in", elementOr(x, 7, 1), 9);
        Boundary.due("the one behind", elementOr(x, 7, 2), 3);
    }

    private static void lowestBits() {
        int[][] values = {{126, 127, 128, 129, -127, -128, -129, 255, 256, 257, Boundary.MIN, Boundary.MAX},
            {32766, 32767, 32768, 32769, -32767, -32768, -32769, 65535, 65536, 65537, Boundary.MIN, Boundary.MAX},
            {Boundary.MAX - 1, Boundary.MAX, Boundary.MIN, Boundary.MIN + 1, -1, 0, 1, 65536, 32768, 128, -32769, -129}};
        int[][] kept = {{126, 127, -128, -127, -127, -128, 127, -1, 0, 1, 0, -1},
            {32766, 32767, -32768, -32767, -32767, -32768, 32767, -1, 0, 1, 0, -1},
            values[2]};
        for (int sort = 0; sort <= 2; sort++) {
            PlumbLine x = new PlumbLine();
            x.row(0, sort, 12);
            for (int i = 0; i < 12; i++) {
                Boundary.due("put", x.put(0, i, values[sort][i]), 0);
                Boundary.due("what is kept of " + values[sort][i] + ", SORT " + sort, elementOr(x, 0, i), kept[sort][i]);
            }
            PlumbLine y = new PlumbLine();
            y.row(0, sort, 100);
            for (int i = 0; i < 100; i++) {
                y.put(0, i, 37 * i - 128 * (i % 5));
            }
            for (int i = 0; i < 100; i++) {
                int v = 37 * i - 128 * (i % 5);
                Boundary.due("of a hundred", elementOr(y, 0, i), sort == 0 ? (byte) v : v);
            }
        }
    }

    private static void putRefusedFirst() {
        Boundary.refused(Boundary::busy, "put(8, -1, 0): -1 ahead of -13", -1, x -> x.put(8, -1, 0));
        Boundary.refused(Boundary::busy, "put(5, -1, 0): -11 ahead of -13", -11, x -> x.put(5, -1, 0));
        Boundary.refused(Boundary::busy, "put(4, -1, 0): -12 ahead of -13", -12, x -> x.put(4, -1, 0));
        Boundary.refused(Boundary::busy, "put(7, 100, 0): -12 ahead of -13", -12, x -> x.put(7, 100, 0));
    }

    private static void element() {
        for (int i : new int[] {-1, 0, 1, 100}) {
            Boundary.refusedEach(Boundary::busy, "element(?, " + i + ")", Long.MIN_VALUE, (x, d) -> elementOr(x, d, i), FAR);
        }
        Boundary.refusedEach(Boundary::busy, "element(?, 0), no ROW", Long.MIN_VALUE + 1, (x, d) -> elementOr(x, d, 0), 3, 4, 5, 7);
        int[] shelves = {0, 1, 2, 6};
        int[] sizes = {6, 3, 2, 20};
        for (int s = 0; s < shelves.length; s++) {
            int d = shelves[s];
            Boundary.range(Boundary::busy, "element(" + d + ", ?)", Long.MIN_VALUE + 1, (x, i) -> elementOr(x, d, i), 0,
                sizes[s] - 1);
        }
        PlumbLine x = Boundary.busy();
        Boundary.due("the first byte", elementOr(x, 0, 0), 'm');
        Boundary.due("the last byte", elementOr(x, 0, 5), ';');
        Boundary.due("the first short", elementOr(x, 1, 0), -32768);
        Boundary.due("the first int", elementOr(x, 2, 0), Integer.MIN_VALUE);
        x.keep(0, 1, 0, 0);
        Boundary.due("a KIND where a ROW was", elementOr(x, 0, 0), Long.MIN_VALUE + 1);
        x.keep(1, 0, 0, 0);
        Boundary.due("nothing where a ROW was", elementOr(x, 1, 0), Long.MIN_VALUE + 1);
        PlumbLine hundred = new PlumbLine();
        hundred.row(0, 0, 100);
        Boundary.due("the hundredth", elementOr(hundred, 0, 99), 0);
        Boundary.due("behind the hundredth", elementOr(hundred, 0, 100), Long.MIN_VALUE + 1);
    }

    // ---- promise 35

    /** Shelf 0 holds five shorts, 1 to 5, shelf 1 three shorts, 7 to 9, and 2 none. */
    private static PlumbLine shorts() {
        PlumbLine x = Boundary.shelve(new PlumbLine(), 0, 1, 1, 2, 3, 4, 5);
        Boundary.shelve(x, 1, 1, 7, 8, 9);
        x.row(2, 1, 0);
        x.row(3, 0, 5);
        x.row(4, 2, 5);
        // a KIND and nothing, where ROWS of that SORT have been
        x.row(5, 1, 3);
        x.keep(5, 1, 2, 2);
        x.row(6, 1, 3);
        x.keep(6, 0, 0, 0);
        return x;
    }

    private static void holds(PlumbLine x, int d, int... elements) {
        for (int i = 0; i < elements.length; i++) {
            Boundary.due("element(" + d + ", " + i + ")", elementOr(x, d, i), elements[i]);
        }
        Boundary.due("no more", elementOr(x, d, elements.length), Long.MIN_VALUE + 1);
    }

    private static void copies(int i, int j, int n, int... elements) {
        PlumbLine x = shorts();
        Boundary.due("copy(0, " + i + ", 1, " + j + ", " + n + ")", x.copy(0, i, 1, j, n), n);
        holds(x, 1, elements);
        holds(x, 0, 1, 2, 3, 4, 5);
    }

    private static void copiesInside(int i, int j, int n, int... elements) {
        PlumbLine x = shorts();
        Boundary.due("copy(0, " + i + ", 0, " + j + ", " + n + ")", x.copy(0, i, 0, j, n), n);
        holds(x, 0, elements);
    }

    private static void copy() {
        copies(0, 0, 3, 1, 2, 3);
        copies(2, 0, 3, 3, 4, 5);
        copies(4, 2, 1, 7, 8, 5);
        copies(0, 2, 1, 7, 8, 1);
        copies(4, 0, 1, 5, 8, 9);
        copies(1, 1, 2, 7, 2, 3);
        copies(0, 0, 0, 7, 8, 9);
        copies(5, 3, 0, 7, 8, 9);
        copiesInside(0, 1, 4, 1, 1, 2, 3, 4);
        copiesInside(1, 0, 4, 2, 3, 4, 5, 5);
        copiesInside(0, 0, 5, 1, 2, 3, 4, 5);
        copiesInside(0, 2, 3, 1, 2, 1, 2, 3);
        copiesInside(4, 0, 1, 5, 2, 3, 4, 5);
        PlumbLine x = shorts();
        Boundary.due("of no element none", x.copy(2, 0, 2, 0, 0), 0);
        PlumbLine hundred = Boundary.shelve(new PlumbLine(), 0, 2, Boundary.MIN, Boundary.MAX);
        hundred.row(1, 2, 100);
        Boundary.due("to the last places", hundred.copy(0, 0, 1, 98, 2), 2);
        Boundary.due("the last but two", elementOr(hundred, 1, 97), 0);
        Boundary.due("the last but one", elementOr(hundred, 1, 98), Boundary.MIN);
        Boundary.due("the last", elementOr(hundred, 1, 99), Boundary.MAX);
        Boundary.due("a hundred onto themselves", hundred.copy(1, 0, 1, 0, 100), 100);
    }

    private static void copyRefused() {
        Boundary.refusedEach(ShelfBoundaries::shorts, "copy(?, 0, 1, 0, 1)", -1, (x, d) -> x.copy(d, 0, 1, 0, 1), FAR);
        Boundary.refusedEach(ShelfBoundaries::shorts, "copy(0, 0, ?, 0, 1)", -1, (x, e) -> x.copy(0, 0, e, 0, 1), FAR);
        Boundary.refusedEach(ShelfBoundaries::shorts, "copy(?, 0, 1, 0, 1) of nothing", -11, (x, d) -> x.copy(d, 0, 1, 0, 1), 6, 7);
        Boundary.refusedEach(ShelfBoundaries::shorts, "copy(0, 0, ?, 0, 1) of nothing", -11, (x, e) -> x.copy(0, 0, e, 0, 1), 6, 7);
        Boundary.refusedEach(ShelfBoundaries::shorts, "copy(?, 0, 1, 0, 1)", -12, (x, d) -> x.copy(d, 0, 1, 0, 1), 3, 4, 5);
        Boundary.refusedEach(ShelfBoundaries::shorts, "copy(0, 0, ?, 0, 1)", -12, (x, e) -> x.copy(0, 0, e, 0, 1), 3, 4, 5);
        Boundary.refused(ShelfBoundaries::shorts, "copy of bytes to ints", -12, x -> x.copy(3, 0, 4, 0, 1));
        int[] below = {Boundary.MIN, -256, -2, -1};
        Boundary.refusedEach(ShelfBoundaries::shorts, "copy(0, 0, 1, 0, ?)", -13, (x, n) -> x.copy(0, 0, 1, 0, n), below);
        Boundary.refusedEach(ShelfBoundaries::shorts, "copy(0, ?, 1, 0, 1)", -13, (x, i) -> x.copy(0, i, 1, 0, 1), below);
        Boundary.refusedEach(ShelfBoundaries::shorts, "copy(0, 0, 1, ?, 1)", -13, (x, j) -> x.copy(0, 0, 1, j, 1), below);
        Boundary.refusedEach(ShelfBoundaries::shorts, "copy(0, ?, 1, 0, 0)", -13, (x, i) -> x.copy(0, i, 1, 0, 0), -1, 6,
            Boundary.MAX);
        Boundary.refusedEach(ShelfBoundaries::shorts, "copy(0, 0, 1, ?, 0)", -13, (x, j) -> x.copy(0, 0, 1, j, 0), -1, 4,
            Boundary.MAX);
        Boundary.refusedEach(ShelfBoundaries::shorts, "copy(0, ?, 1, 0, 1)", -13, (x, i) -> x.copy(0, i, 1, 0, 1), 5, 6,
            Boundary.MAX);
        Boundary.refusedEach(ShelfBoundaries::shorts, "copy(0, 0, 1, ?, 1)", -13, (x, j) -> x.copy(0, 0, 1, j, 1), 3, 4,
            Boundary.MAX);
        Boundary.refusedEach(ShelfBoundaries::shorts, "copy(0, 0, 1, 0, ?)", -13, (x, n) -> x.copy(0, 0, 1, 0, n), 4, 5, 6,
            Boundary.MAX);
        Boundary.refusedEach(ShelfBoundaries::shorts, "copy(1, 0, 0, 0, ?)", -13, (x, n) -> x.copy(1, 0, 0, 0, n), 4, 5, 6);
        Boundary.refusedEach(ShelfBoundaries::shorts, "copy(0, 4, 1, 2, ?)", -13, (x, n) -> x.copy(0, 4, 1, 2, n), 2, 3,
            Boundary.MAX);
        Boundary.refused(ShelfBoundaries::shorts, "copy of an element of none", -13, x -> x.copy(2, 0, 0, 0, 1));
        Boundary.refused(ShelfBoundaries::shorts, "copy to none", -13, x -> x.copy(0, 0, 2, 0, 1));
    }

    private static void copyRefusedFirst() {
        Boundary.refused(ShelfBoundaries::shorts, "-1 of the first ahead of -11", -1, x -> x.copy(8, 0, 6, 0, 1));
        Boundary.refused(ShelfBoundaries::shorts, "-1 of the other ahead of -11", -1, x -> x.copy(6, 0, 8, 0, 1));
        Boundary.refused(ShelfBoundaries::shorts, "-1 of the other ahead of -12", -1, x -> x.copy(5, 0, -1, 0, 1));
        Boundary.refused(ShelfBoundaries::shorts, "-1 ahead of -13", -1, x -> x.copy(0, 0, 8, 0, -1));
        Boundary.refused(ShelfBoundaries::shorts, "-11 of the first ahead of -12", -11, x -> x.copy(6, 0, 5, 0, 1));
        Boundary.refused(ShelfBoundaries::shorts, "-11 of the other ahead of -12", -11, x -> x.copy(5, 0, 6, 0, 1));
        Boundary.refused(ShelfBoundaries::shorts, "-11 ahead of -13", -11, x -> x.copy(0, 0, 6, 0, -1));
        Boundary.refused(ShelfBoundaries::shorts, "-12 ahead of -13", -12, x -> x.copy(0, 0, 3, 0, -1));
        Boundary.refused(ShelfBoundaries::shorts, "-12 of a KIND ahead of -13", -12, x -> x.copy(5, -1, 0, 0, 1));
        Boundary.refused(ShelfBoundaries::shorts, "-12 of one KIND twice", -12, x -> x.copy(5, 0, 5, 0, 0));
    }

    // ---- promises 36 and 37

    private static void refusedUnlessKind(String call, Boundary.NumberCall tried) {
        Boundary.refusedEach(Boundary::busy, call, -1, tried, FAR);
        Boundary.refused(Boundary::busy, call + " of nothing", -11, x -> tried.on(x, 5));
        Boundary.refusedEach(Boundary::busy, call + " of a ROW", -12, tried, 0, 1, 2, 3, 6);
    }

    private static void cost() {
        refusedUnlessKind("cost(?)", PlumbLine::cost);
        for (int k = 0; k < 8; k++) {
            for (int figure = 0; figure <= 9; figure++) {
                PlumbLine x = new PlumbLine();
                x.keep(k, 1, k, figure);
                int want = new int[] {3, 3 + figure, 1, 2, 2 * (3 + figure), 0, 2 * (3 + figure), 2 + 4}[k];
                Boundary.due("cost of KIND " + k + " with " + figure, x.cost(k), want);
                Boundary.due("and it stays there", x.cost(k), want);
            }
        }
    }

    private static void toss() {
        refusedUnlessKind("toss(?)", PlumbLine::toss);
        for (int k = 0; k < 8; k++) {
            int kind = k;
            Boundary.refused(() -> kept(kind, 0), "toss of KIND " + k + " with 0", -15, x -> x.toss(3));
            for (int figure = 1; figure <= 9; figure++) {
                int one = figure;
                int want = new int[] {figure, 100 + figure, -15, figure, 100 + figure, -15, 200 + 2 * (3 + figure), figure}[k];
                Boundary.refused(() -> kept(kind, one), "toss of KIND " + k + " with " + figure, want, x -> x.toss(3));
            }
        }
    }

    private static PlumbLine kept(int kind, int figure) {
        PlumbLine x = new PlumbLine();
        x.keep(3, 1, kind, figure);
        return x;
    }
}
