/** For each promise of the document cases worked out by hand from its words. */
public final class PromiseTest {
    private static final int NOTHING = 1000000001;
    private static int wrong;
    private static int asked;
    private static String promise = "";

    public static void main(String[] args) {
        aNewObject();
        city();
        cityFaults();
        lean();
        man();
        comes();
        pushes();
        props();
        hangs();
        days();
        kindsLean();
        crashes();
        lead();
        leanThen();
        then();
        straight();
        crash();
        finds();
        trust();
        tells();
        fewestProps();
        push();
        right();
        whatIs();
        whereHung();
        two();
        shocks();
        mean();
        forged();
        judge();
        years();
        image();
        restore();
        count();
        keep();
        row();
        put();
        element();
        copy();
        cost();
        toss();
        fullCity();
        System.out.println("PromiseTest: " + asked + " answers, " + wrong + " wrong");
        if (wrong != 0) {
            System.exit(1);
        }
    }

    // ---- helpers

    private static void due(String call, long got, long want) {
        asked++;
        if (got != want) {
            wrong++;
            System.out.println(promise + ": " + call + " answered " + got + ", due is " + want);
        }
    }

    private static void shelveText(PlumbLine x, int d, String text) {
        x.row(d, 0, text.length());
        for (int i = 0; i < text.length(); i++) {
            x.put(d, i, text.charAt(i));
        }
    }

    private static void shelveRow(PlumbLine x, int d, int sort, int... values) {
        x.row(d, sort, values.length);
        for (int i = 0; i < values.length; i++) {
            x.put(d, i, values[i]);
        }
    }

    private static int tell(PlumbLine x, String text) {
        shelveText(x, 7, text);
        return x.city(7);
    }

    private static PlumbLine told(String text) {
        PlumbLine x = new PlumbLine();
        int statements = tell(x, text);
        if (statements <= 0) {
            due("city of " + text, statements, 1);
        }
        return x;
    }

    private static void passDays(PlumbLine x, int n) {
        int left = n;
        while (left > 0) {
            int some = Math.min(60, left);
            x.days(some);
            left -= some;
        }
    }

    /** A man's kind and figure, and his lean by its true number. */
    private static String one(int kind, int figure, int lean) {
        return "m" + kind + figure + twoDigits(lean + 45) + ";";
    }

    private static String twoDigits(int n) {
        return (n < 10 ? "0" : "") + n;
    }

    /** Two bankers who are never upright and never lean more: a crash on every day. */
    private static String crashing() {
        return one(1, 0, 10) + one(1, 0, 20);
    }

    private static int thrownBy(PlumbLine x, int d, int i) {
        try {
            x.element(d, i);
        } catch (IllegalArgumentException e) {
            return 1;
        } catch (IllegalStateException e) {
            return 2;
        }
        return 0;
    }

    // ---- the city as told

    private static void aNewObject() {
        promise = "1 a new object";
        PlumbLine x = new PlumbLine();
        for (int what = 0; what <= 6; what++) {
            due("count " + what, x.count(what), 0);
        }
        due("lean", x.lean(0), NOTHING);
        for (int d = 0; d < 8; d++) {
            due("nothing on a shelf", x.cost(d), -11);
        }
        due("no image", x.restore(), -3);
    }

    private static void city() {
        promise = "2 city";
        PlumbLine x = new PlumbLine();
        due("a man", tell(x, "m3755;"), 1);
        due("kind", x.man(0, 0), 3);
        due("figure", x.man(0, 1), 7);
        due("lean", x.lean(0), 10);
        due("farthest west and east", tell(x, "m0000;m0090;"), 2);
        due("west", x.lean(1), -45);
        due("east", x.lean(2), 45);
        due("lean told", tell(x, "l140;"), 1);
        due("lean", x.lean(1), -5);
        due("propped", tell(x, "r2;"), 1);
        due("bits", x.count(6), 4);
        due("propped again is not", tell(x, "r2;r1;"), 2);
        due("bits", x.count(6), 2);
        due("lead", tell(x, "w97;"), 1);
        due("swings", x.count(3), 9);
        due("place", x.count(2), 7);
        due("days", tell(x, "d60;d01;"), 2);
        due("day", x.count(1), 61);
        due("a statement on what those ahead made", tell(x, "m0045;r3;l346;"), 3);
        due("of the new one", x.lean(3), 1);
        due("the text stays", x.element(7, 0), 'm');
        due("no such shelf", x.city(8), -1);
        due("no such shelf", x.city(-1), -1);
        due("nothing", x.city(0), -11);
        x.row(0, 1, 6);
        due("shorts", x.city(0), -12);
        x.row(0, 2, 6);
        due("ints", x.city(0), -12);
        x.keep(0, 1, 0, 0);
        due("a kind", x.city(0), -12);
    }

    private static void cityFaults() {
        promise = "2 city, faults";
        String[] texts = {"", "x", "m", "m0045", "m004;", "m00455;", "m0045;;", "m0045;x", "l0a0;", "r;", "r00;",
            "w0;", "d1;", "d001;", " m0045;", "m0045; ", "M0045;", "m/045;", "m:045;", "m8000;r", "d99;q"};
        int[] faults = {0, 0, 1, 5, 4, 5, 6, 6, 2, 1, 2,
            2, 2, 3, 0, 6, 0, 1, 1, 7, 4};
        for (int i = 0; i < texts.length; i++) {
            due("'" + texts[i] + "'", tell(new PlumbLine(), texts[i]), -1000 - faults[i]);
        }
        String ahead = "m0045;";
        String[] bad = {"m8045;", "m9045;", "m0091;", "m0099;", "l191;", "l145;", "l091;", "r1;", "r9;",
            "w08;", "w99;", "d00;", "d61;", "d99;"};
        for (String statement : bad) {
            PlumbLine x = new PlumbLine();
            due(statement, tell(x, ahead + statement + "r0;"), -2006);
            due("nobody has come", x.count(0), 0);
        }
        due("the first of two", tell(new PlumbLine(), "r0;d00;"), -2000);
        due("form goes first", tell(new PlumbLine(), "r0;d00"), -1006);
        PlumbLine full = told(ahead + ahead + ahead + ahead + ahead + ahead + ahead);
        due("no room for a ninth", tell(full, ahead + ahead), -2006);
        due("seven stay", full.count(0), 7);
        PlumbLine late = told("d60;d60;d60;d60;d60;d60;d60;d60;d60;d60;d60;d60;d60;d60;d60;d60;d38;");
        due("the day", late.count(1), 998);
        due("above 999", tell(late, "d01;d01;"), -2004);
        due("none of them went", late.count(1), 998);
        due("999 may be", tell(late, "d01;"), 1);
        PlumbLine undone = told("m0055;w12;");
        due("a fault at the end", tell(undone, "l045;r0;w93;d05;r5;"), -2016);
        due("lean is as it was", undone.lean(0), 10);
        due("propped is as it was", undone.count(6), 0);
        due("swings are as they were", undone.count(3), 1);
        due("the place is as it was", undone.count(2), 2);
        due("the day is as it was", undone.count(1), 0);
        PlumbLine x = new PlumbLine();
        shelveRow(x, 0, 0, 'r' + 256, '0', ';');
        due("bytes keep their lowest bits", x.city(0), -2000);
        shelveRow(x, 0, 0, 'r', '0', ';' - 256 * 3);
        due("bytes keep their lowest bits", x.city(0), -2000);
    }

    private static void lean() {
        promise = "3 lean";
        PlumbLine x = told(one(0, 0, -3) + one(0, 0, 45));
        due("first", x.lean(0), -3);
        due("second", x.lean(1), 45);
        due("third", x.lean(2), NOTHING);
        due("below", x.lean(-1), NOTHING);
    }

    private static void man() {
        promise = "4 man";
        int[] within = {5, 4, 0, 8, 8, 9, 8, 8};
        int[] discountOf9 = {9, 4, 18, 9, 7, 0, 0, 13};
        for (int k = 0; k < 8; k++) {
            PlumbLine x = told(one(k, 4, -9));
            due("kind", x.man(0, 0), k);
            due("figure", x.man(0, 1), 4);
            due("propped", x.man(0, 2), 0);
            due("discount of " + k, x.man(0, 4), discountOf9[k]);
            x.pushes(0, within[k]);
            due("upright " + k, x.man(0, 3), 1);
            x.pushes(0, -within[k]);
            due("upright " + k, x.man(0, 3), 1);
            x.pushes(0, within[k] + 1);
            due("not upright " + k, x.man(0, 3), 0);
            x.pushes(0, -within[k] - 1);
            due("not upright " + k, x.man(0, 3), 0);
            x.props(0);
            due("propped", x.man(0, 2), 1);
            due("by nobody", x.man(0, 5), 0);
        }
        PlumbLine x = told(one(0, 0, 10) + one(0, 0, 20) + one(0, 0, 21) + one(0, 0, -10) + one(0, 0, 0) + one(0, 0, 0));
        due("10 by those of his side", x.man(0, 5), 0b110);
        due("20 by 10, too", x.man(1, 5), 0b101);
        due("21 not by 10", x.man(2, 5), 0b010);
        due("west by nobody", x.man(3, 5), 0);
        due("0 by 0", x.man(4, 5), 0b100000);
        due("what", x.man(0, 6), -1);
        due("what", x.man(0, -1), -1);
        due("no such man", x.man(6, 0), -1);
        due("no such man", x.man(-1, 0), -1);
    }

    private static void comes() {
        promise = "5 comes";
        PlumbLine x = new PlumbLine();
        x.keep(2, 1, 6, 5);
        due("the first", x.comes(2, -45), 0);
        due("the second", x.comes(2, 45), 1);
        due("kind", x.man(1, 0), 6);
        due("figure", x.man(1, 1), 5);
        due("lean", x.lean(0), -45);
        due("not propped", x.count(6), 0);
        due("lean", x.comes(2, 46), -1);
        due("lean", x.comes(2, -46), -1);
        due("lean ahead of nothing", x.comes(3, 46), -1);
        due("shelf", x.comes(8, 0), -1);
        due("shelf", x.comes(-1, 0), -1);
        due("nothing", x.comes(3, 0), -11);
        x.row(3, 0, 1);
        due("a row", x.comes(3, 0), -12);
        for (int m = 2; m < 8; m++) {
            due("one more", x.comes(2, 0), m);
        }
        due("no room", x.comes(2, 0), -2);
        due("a row ahead of no room", x.comes(3, 0), -12);
        due("eight", x.count(0), 8);
    }

    private static void pushes() {
        promise = "6 pushes";
        PlumbLine x = told(one(0, 0, 7));
        due("the old one", x.pushes(0, -45), 7);
        due("the old one", x.pushes(0, 45), -45);
        due("too far", x.pushes(0, 46), NOTHING);
        due("too far", x.pushes(0, -46), NOTHING);
        due("no such man", x.pushes(1, 0), NOTHING);
        due("no such man", x.pushes(-1, 0), NOTHING);
        due("nothing changed", x.lean(0), 45);
        x.props(0);
        due("a propped one, too", x.pushes(0, 1), 45);
    }

    private static void props() {
        promise = "7 props";
        PlumbLine x = told(one(0, 0, 7) + one(0, 0, 8));
        due("propped", x.props(1), 1);
        due("bits", x.count(6), 2);
        due("propped", x.props(0), 1);
        due("not any more", x.props(1), 0);
        due("bits", x.count(6), 1);
        due("no such man", x.props(2), -1);
        due("no such man", x.props(-1), -1);
    }

    private static void hangs() {
        promise = "8 hangs";
        PlumbLine x = new PlumbLine();
        due("old", x.hangs(9, 7), 0);
        due("old", x.hangs(0, 3), 97);
        due("swings", x.hangs(10, 0), -1);
        due("swings", x.hangs(-1, 0), -1);
        due("place", x.hangs(0, 8), -1);
        due("place", x.hangs(0, -1), -1);
        due("nothing changed", x.hangs(0, 0), 3);
    }

    private static void days() {
        promise = "9 days";
        PlumbLine x = told(one(2, 0, 3) + one(5, 0, 45));
        due("one upright", x.days(3), 1);
        due("day", x.count(1), 3);
        due("the scrubber, too", x.days(5), 2);
        due("none", x.days(0), -1);
        due("below", x.days(-1), -1);
        due("above", x.days(61), -1);
        for (int i = 0; i < 16; i++) {
            x.days(60);
        }
        due("day", x.count(1), 968);
        due("999 at most", x.days(32), -3);
        due("none of them went", x.count(1), 968);
        due("range ahead of that", x.days(61), -1);
        due("up to 999", x.days(31), 2);
        due("999 at most", x.days(1), -3);
    }

    private static void leansMore(int kind, int figure, int lean, int other, int... due) {
        PlumbLine x = told(one(kind, figure, lean) + one(1, 9, other) + one(1, 9, 0) + one(1, 9, 0));
        for (int i = 0; i < due.length; i++) {
            x.days(1);
            due("kind " + kind + " from " + lean + ", day " + (i + 1), x.lean(0), due[i]);
        }
    }

    private static void kindsLean() {
        promise = "9 days, by kinds";
        leansMore(0, 0, 0, 8, 1, 2, 2);
        leansMore(0, 0, 0, -8, -1, -2, -2);
        leansMore(0, 0, 9, 0, 8, 7, 6, 5, 4, 3, 2, 1, 0, 0);
        leansMore(1, 9, 7, 0, 7, 7);
        leansMore(2, 0, 2, 0, 1, 0, 0);
        leansMore(2, 0, -2, 0, -1, 0, 0);
        leansMore(3, 0, 0, 12, 2, 3, 3);
        leansMore(3, 0, -7, 0, -5, -3, -1, 0, 0);
        leansMore(4, 2, 0, 0, 1, 2);
        leansMore(4, 3, 0, 0, 2, 4);
        leansMore(4, 8, -1, 0, -4, -7);
        leansMore(4, 9, 40, 0, 44, 45, 45);
        leansMore(5, 0, 12, 0, 7, 2, 0, 0);
        leansMore(5, 0, -12, 0, -7, -2, 0, 0);
        leansMore(6, 5, 0, 0, 4, 8);
        leansMore(6, 9, -40, 0, -45, -45);
        leansMore(7, 0, 0, 40, 0, 2, 2, 4);
        leansMore(7, 0, 0, -40, 0, -2, -2, -4);
        PlumbLine x = told(one(0, 0, 9) + one(5, 0, 0) + "r0;");
        x.days(4);
        due("a propped one stays", x.lean(0), 9);
        PlumbLine both = told(one(0, 0, 4) + one(3, 0, 0));
        both.days(1);
        due("all by the mean as it was", both.lean(0), 3);
        due("all by the mean as it was", both.lean(1), 2);
        PlumbLine cut = told(one(1, 9, -3) + one(0, 0, 0));
        cut.days(1);
        due("the mean is cut towards 0", cut.lean(1), -1);
        PlumbLine cutToo = told(one(1, 9, -1) + one(0, 0, 0));
        cutToo.days(1);
        due("the mean is cut towards 0", cutToo.lean(1), 0);
    }

    private static void crashes() {
        promise = "9 days, crashes";
        PlumbLine x = told(crashing());
        due("none upright", x.days(1), 0);
        due("crashes", x.count(4), 1);
        due("the other sign", x.lean(0), -10);
        due("the other sign", x.lean(1), -20);
        due("swings", x.count(3), 9);
        x.props(1);
        x.days(1);
        due("crashes", x.count(4), 2);
        due("the other sign again", x.lean(0), 10);
        due("a propped one has not", x.lean(1), -20);
        PlumbLine three = told(crashing() + one(1, 0, 0));
        due("one of three is half, cut", three.days(1), 1);
        due("no crash", three.count(4), 0);
        due("swings stay at 0", three.count(3), 0);
        PlumbLine four = told(crashing() + one(1, 0, 0) + one(1, 0, 30));
        due("one of four is fewer", four.days(1), 1);
        due("a crash", four.count(4), 1);
        PlumbLine alone = told(one(1, 0, 10));
        alone.days(1);
        due("one alone never crashes", alone.count(4), 0);
        PlumbLine nobody = new PlumbLine();
        due("nobody upright", nobody.days(1), 0);
        due("nobody never crashes", nobody.count(4), 0);
        PlumbLine behind = told(one(4, 0, 0) + one(4, 0, 0));
        due("upright behind they leaned", behind.days(1), 0);
        due("a crash", behind.count(4), 1);
        due("west now", behind.lean(0), -1);
        PlumbLine long999 = told(crashing());
        passDays(long999, 999);
        due("crashes", long999.count(4), 999);
        due("999 at most", long999.then(5, 2), 999);
        due("what is west now", long999.lean(0), -10);
        due("the sign in mind", long999.leanThen(0, 1), 10);
        due("props are needed still", long999.fewestProps(1), -4);
        due("crashes as told are no more by years", long999.years(3, 1, 1), 0);
    }

    private static void lead() {
        promise = "9 days, the lead";
        PlumbLine x = told(one(1, 9, 0) + one(1, 9, 0) + one(1, 9, 0) + "w30;");
        int[] places = {1, 2, 1, 0, 0};
        int[] swings = {2, 1, 0, 0, 0};
        for (int i = 0; i < places.length; i++) {
            x.days(1);
            due("place", x.count(2), places[i]);
            due("swings", x.count(3), swings[i]);
        }
        PlumbLine round = told(one(1, 9, 0) + one(1, 9, 0) + one(1, 9, 0) + "w91;");
        int[] rounds = {2, 0, 1, 2};
        for (int place : rounds) {
            round.days(1);
            due("behind the last man's 0", round.count(2), place);
        }
        PlumbLine far = told(one(1, 9, 0) + one(1, 9, 0) + "w97;");
        far.days(1);
        due("behind all men", far.count(2), 0);
        PlumbLine seeks = told(one(1, 9, 5) + one(1, 9, -4) + one(1, 9, 4) + "w07;");
        int[] sought = {6, 5, 4, 3, 2, 1, 1};
        for (int place : sought) {
            seeks.days(1);
            due("nearer by 1", seeks.count(2), place);
        }
        seeks.hangs(0, 0);
        seeks.days(1);
        due("nearer from below", seeks.count(2), 1);
        PlumbLine nobody = told("w55;d03;");
        due("without men it stays", nobody.count(2), 5);
        due("but swings less", nobody.count(3), 2);
        PlumbLine crashed = told(crashing() + "w01;d01;");
        due("it swings on the day of a crash", crashed.count(2), 0);
        PlumbLine led = told(one(2, 0, 2) + one(5, 0, 5) + "d01;");
        due("by leans behind they leaned", led.count(2), 1);
    }

    // ---- days on

    private static void leanThen() {
        promise = "10 leanThen";
        PlumbLine x = told(one(2, 0, 44) + one(1, 9, 1));
        due("now", x.leanThen(0, 0), 44);
        due("on", x.leanThen(0, 5), 39);
        due("far on", x.leanThen(0, 60), 0);
        due("nothing changed", x.lean(0), 44);
        due("the day neither", x.count(1), 0);
        due("days", x.leanThen(0, 61), NOTHING);
        due("days", x.leanThen(0, -1), NOTHING);
        due("no such man", x.leanThen(2, 0), NOTHING);
        due("no such man", x.leanThen(-1, 0), NOTHING);
        PlumbLine late = told("d60;d60;d60;d60;d60;d60;d60;d60;d60;d60;d60;d60;d60;d60;d60;d60;d39;");
        late.keep(0, 1, 2, 0);
        late.comes(0, 45);
        due("past 999", late.leanThen(0, 30), 15);
        late.keep(0, 1, 7, 0);
        late.comes(0, 0);
        due("day 1000 is even", late.leanThen(1, 1), 2);
        due("day 1001 is not", late.leanThen(1, 2), 2);
    }

    private static void then() {
        promise = "11 then";
        PlumbLine x = told(crashing() + "w50;");
        due("place now", x.then(0, 0), 0);
        due("place", x.then(3, 0), 1);
        due("swings now", x.then(0, 1), 5);
        due("swings", x.then(3, 1), 9);
        due("crashes", x.then(60, 2), 60);
        due("upright", x.then(60, 3), 0);
        due("nothing changed", x.count(4), 0);
        PlumbLine y = told(one(2, 0, 3) + one(5, 0, 12));
        due("upright now", y.then(0, 3), 0);
        due("one", y.then(1, 3), 2);
        due("both", y.then(3, 3), 3);
        due("days", x.then(61, 0), -1);
        due("days", x.then(-1, 0), -1);
        due("what", x.then(0, 4), -1);
        due("what", x.then(0, -1), -1);
    }

    private static void straight() {
        promise = "12 straight";
        PlumbLine x = told(one(2, 0, 45) + one(1, 9, 1) + one(5, 0, -11) + one(0, 0, 0));
        due("by ones", x.straight(0), 45);
        due("never", x.straight(1), -4);
        due("by fives", x.straight(2), 3);
        due("now", x.straight(3), 0);
        due("no such man", x.straight(4), -1);
        due("no such man", x.straight(-1), -1);
        due("a quaker from 1", told(one(2, 0, -1)).straight(0), 1);
        // the model's answer, too: a partner by the mean of two quakers, one of them propped
        due("60 days", told("m2281;r0;m7420;m2890;").straight(1), 60);
        due("one day nearer", told("m2281;r0;m7420;m2890;d01;").straight(1), 59);
    }

    private static void crash() {
        promise = "13 crash";
        PlumbLine x = told(crashing());
        due("at once", x.crash(0), 1);
        due("never still", x.crash(1), -4);
        due("one propped", told(crashing() + "r0;").crash(1), -4);
        due("both propped", told(crashing() + "r0;r1;").crash(1), 0);
        due("crash by the propped", told(crashing() + "r0;r1;").crash(0), 1);
        PlumbLine y = told(one(2, 0, 40) + one(1, 9, 9));
        due("no crash", y.crash(0), -4);
        due("still behind 40", y.crash(1), 40);
        PlumbLine z = told(one(2, 0, 45) + one(5, 0, 45));
        due("a crash each day till upright", z.crash(0), 1);
        due("still behind 45", z.crash(1), 45);
        PlumbLine slow = told(one(4, 0, 0) + one(4, 0, 0) + one(1, 9, 0) + one(1, 9, 0));
        due("no crash", slow.crash(0), -4);
        due("still at 45", slow.crash(1), 45);
        PlumbLine grows = told(one(4, 3, 0) + one(4, 3, 0));
        due("first out of 6 at 8", grows.crash(0), 4);
        // bankers who make the mean 5 for a man at 5: (36 + 5) by 8; and 6 for one at 6: (43 + 6) by 8
        String fives = one(1, 9, 5) + one(1, 9, 5) + one(1, 9, 5) + one(1, 9, 5) + one(1, 9, 5) + one(1, 9, 5);
        String sixes = one(1, 9, 6) + one(1, 9, 6) + one(1, 9, 6) + one(1, 9, 6) + one(1, 9, 6) + one(1, 9, 6);
        due("still behind 50", told(fives + one(1, 9, 6) + one(0, 0, -45)).crash(1), 50);
        due("51 are too many", told(sixes + one(1, 9, 7) + one(0, 0, -45)).crash(1), -4);
        due("what", x.crash(2), -1);
        due("what", x.crash(-1), -1);
        PlumbLine turns = told(one(7, 0, 40) + one(1, 9, 0) + one(1, 9, 0));
        // he leans on even days only: ten days alike need his rest at the mean
        due("a day off is not still", turns.crash(1) > 0 ? 1 : 0, 1);
        PlumbLine more = told(crashing() + "d05;");
        due("one more than now", more.crash(0), 1);
        // found by search, and the model's answer, too
        PlumbLine late = told("m7990;m7990;m7655;m7452;m6930;r4;m3752;m7505;");
        due("60 days", late.crash(0), 60);
        due("no crash behind 59", late.then(59, 2), 0);
        due("one behind 60", late.then(60, 2), 1);
        late.days(1);
        due("one day nearer", late.crash(0), 59);
        PlumbLine most = told(crashing());
        passDays(most, 999);
        due("999 already", most.count(4), 999);
        due("a crash all the same", most.crash(0), 1);
        most.pushes(0, 0);
        due("none where one is upright", most.crash(0), -4);
        // brokers out of 6 at 8, on the fourth day; until then propped at 45 they crash on each day
        PlumbLine later = told(one(4, 3, 45) + one(4, 3, 45) + "r0;r1;");
        passDays(later, 999);
        due("999 already", later.count(4), 999);
        tell(later, "r0;r1;l045;l145;");
        due("a later one, too", later.crash(0), 4);
    }

    private static void finds() {
        promise = "14 finds";
        PlumbLine x = told(one(1, 9, 5) + one(1, 9, 4) + one(1, 9, 0) + one(1, 9, 3));
        due("now", x.finds(0), 0);
        due("on its way", x.finds(1), 1);
        due("the plumb one", x.finds(2), 2);
        due("never", x.finds(3), -4);
        x.hangs(0, 7);
        due("from behind", x.finds(3), 4);
        due("past 2 never", x.finds(1), -4);
        x.hangs(9, 3);
        due("round", x.finds(0), 1);
        // the model's answer, too: the lead swings by late crashes
        String far = "m7140;r0;m3545;m7539;m7390;m0151;m7602;m0063;r6;m6124;w47;";
        due("60 days", told(far).finds(5), 60);
        due("one day nearer", told(far + "d01;").finds(5), 59);
        due("no such man", x.finds(4), -1);
        due("no such man", x.finds(-1), -1);
    }

    // ---- trust, props

    private static void trust() {
        promise = "15 trust";
        PlumbLine none = new PlumbLine();
        due("nobody", none.trust(0), -4);
        due("nobody", none.trust(2), -4);
        PlumbLine x = told(one(0, 0, 30) + one(0, 0, 10) + one(1, 0, 9) + one(2, 0, -9) + one(7, 3, 0));
        // 30 trusts both, 10 and 9 one another
        due("most trusted, the least", x.trust(0), 1);
        due("rivals", x.trust(1), 7);
        due("plumb", x.trust(2), 4);
        due("east", x.trust(3), 3);
        due("discounts", x.trust(4), 30 + 10 + 4 + 18 + 3);
        x.pushes(4, -9);
        due("plumb, the least of several", x.trust(2), 2);
        due("1 is east, 0 and -1 are not", told(one(0, 0, 1) + one(0, 0, 0) + one(0, 0, -1)).trust(3), 1);
        due("rivals less", x.trust(1), 6);
        due("trusted by none, the least", told(one(0, 0, 5) + one(0, 0, -5)).trust(0), 0);
        due("what", x.trust(5), -1);
        due("what", x.trust(-1), -1);
    }

    private static void tells() {
        promise = "16 tells";
        // 3 trusts up to 13, 13 up to 23, 23 up to 33; all downwards
        PlumbLine x = told(one(0, 0, 3) + one(0, 0, 13) + one(0, 0, 23) + one(0, 0, 33) + one(0, 0, 45) + one(0, 0, -3));
        due("of the nearest all, he by 13", x.tells(0), 0b011111);
        due("of 33 by chains", x.tells(3), 0b011111);
        due("of 45 nobody", x.tells(4), 0);
        due("of the one west nobody", x.tells(5), 0);
        // 33 is trusted by 23 alone, he by 13 and 33, 13 by 3
        due("all by the first", told(one(0, 0, 23) + one(0, 0, 13) + one(0, 0, 33) + one(0, 0, 3)).tells(2), 0b1111);
        due("itself not", told(one(0, 0, 3) + one(0, 0, 20)).tells(0), 0b10);
        due("no such man", x.tells(6), -1);
        due("no such man", x.tells(-1), -1);
    }

    private static void fewestProps() {
        promise = "17 fewestProps";
        due("none needed", told(one(1, 9, 0)).fewestProps(1), 0);
        due("nobody", new PlumbLine().fewestProps(30), 0);
        due("no way", told(crashing()).fewestProps(1), -4);
        // brokers who leave 6 on day 4: one propped stays upright
        PlumbLine x = told(one(4, 3, 0) + one(4, 3, 0));
        due("none for 3 days", x.fewestProps(3), 0);
        due("one for 4 days, the least", x.fewestProps(4), 1);
        due("nothing changed", x.count(6), 0);
        x.props(1);
        due("besides now none", x.fewestProps(30), 0);
        PlumbLine four = told(one(1, 0, 9) + one(4, 3, 0) + one(4, 3, 0) + one(4, 3, 0));
        due("two of three", four.fewestProps(4), 0b0110);
        four.props(2);
        due("one besides", four.fewestProps(4), 0b0010);
        four.props(0);
        due("days", x.fewestProps(0), -1);
        due("days", x.fewestProps(31), -1);
    }

    private static void push() {
        promise = "18 push";
        due("nobody", new PlumbLine().push(0), -4);
        due("all upright", told(one(0, 0, 5)).push(0), -4);
        due("the first lean", told(one(0, 0, 6)).push(0), 40);
        due("the first man", told(one(0, 0, 6) + one(0, 0, 7)).push(0), 40);
        due("the second man", told(one(0, 0, 5) + one(2, 0, 7)).push(0), 145);
        due("from farther off", told(one(2, 0, 45)).push(20), 25);
        due("a propped one, too", told(one(0, 0, 45) + "r0;").push(3), 40);
        PlumbLine x = told(crashing());
        due("one of two suffices", x.push(1), 45);
        due("nothing changed", x.lean(0), 10);
        // a swindler who is never upright draws the mean west, so that the other goes from 6 to 5
        due("the first of all leans", told(one(6, 0, 45) + one(0, 0, 6)).push(1), 0);
        due("days", x.push(21), -1);
        due("days", x.push(-1), -1);
    }

    private static void right() {
        promise = "19 right";
        PlumbLine none = new PlumbLine();
        due("nobody", none.right(0), -4);
        due("nobody", none.right(1), -4);
        due("nobody", none.right(2), 0);
        PlumbLine x = told(one(0, 0, 20) + one(0, 0, 15) + one(0, 0, 10) + one(5, 0, 4) + one(0, 0, -45));
        // from 15 those at 20 and 10, from 10 the one at 15 and the scrubber at 4
        due("the least of several with two others", x.right(0), 1);
        due("rising in a row", x.right(1), 1);
        due("20 15 10 -45", x.right(2), 0b10111);
        due("no balance", told(one(0, 0, 20) + one(0, 0, -19)).right(2), 0);
        due("by the kinds of the others", told(one(5, 0, 9) + one(0, 0, 0)).right(0), 1);
        due("the least of several", told(one(0, 0, 5) + one(0, 0, 0)).right(0), 0);
        due("alone", told(one(0, 0, 5)).right(0), 0);
        PlumbLine walls = told(one(0, 0, 5) + one(0, 0, 1) + one(0, 0, 2) + one(0, 0, 2) + one(0, 0, -9) + one(0, 0, 4));
        due("1 2 2 4", walls.right(1), 4);
        due("0 1 2", told(one(0, 0, 0) + one(0, 0, 1) + one(0, 0, 0) + one(0, 0, 2)).right(1), 3);
        due("0 0 among falling ones", told(one(0, 0, 0) + one(0, 0, -5) + one(0, 0, 0)).right(1), 2);
        due("the first alone", told(one(0, 0, 0)).right(2), 1);
        due("1 2 2 -9 4", walls.right(2), 0b111110);
        due("several sets, the least", told(one(0, 0, 3) + one(0, 0, 3) + one(0, 0, -3)).right(2), 0b101);
        due("a 0 is more", told(one(0, 0, 3) + one(0, 0, 0) + one(0, 0, -3)).right(2), 0b111);
        due("what", x.right(3), -1);
        due("what", x.right(-1), -1);
    }

    // ---- what he did, where it hung

    private static void whatIs() {
        promise = "20 whatIs";
        PlumbLine x = told(one(0, 3, 0) + one(1, 9, 40));
        shelveRow(x, 0, 0);
        due("an empty row", x.whatIs(0, 0, 0), 255);
        due("an empty row", x.whatIs(0, 0, 1), 1023);
        shelveRow(x, 0, 0, 0);
        due("now", x.whatIs(0, 0, 0), 255);
        shelveRow(x, 0, 0, 1);
        due("not even now", x.whatIs(0, 0, 0), 0);
        // figure 3: man +1, banker 0, quaker 0, clerk +2, broker +2, scrubber 0, swindler +4, partner 0
        shelveRow(x, 0, 0, 0, 1);
        due("a man", x.whatIs(0, 0, 0), 1);
        shelveRow(x, 0, 1, 0, 0);
        due("those who rest", x.whatIs(0, 0, 0), 0b10100110);
        shelveRow(x, 0, 2, 0, 2);
        due("clerk and broker", x.whatIs(0, 0, 0), 0b00011000);
        shelveRow(x, 0, 0, 0, -128, 2);
        due("skipped: man, partner", x.whatIs(0, 0, 0), 0b10000001);
        shelveRow(x, 0, 1, 0, -128);
        due("no least number of shorts", x.whatIs(0, 0, 0), 0);
        shelveRow(x, 0, 1, 0, -32768, 2);
        due("skipped", x.whatIs(0, 0, 0), 0b10000001);
        shelveRow(x, 0, 2, 0, Integer.MIN_VALUE, 2);
        due("skipped", x.whatIs(0, 0, 0), 0b10000001);
        PlumbLine broker = told(one(4, 0, 10));
        shelveRow(broker, 0, 0, 10, 13);
        due("figures 6 to 8", broker.whatIs(0, 0, 1), 0b0111000000);
        due("nothing changed", broker.man(0, 1), 0);
        due("what", x.whatIs(0, 0, 2), -1);
        due("what", x.whatIs(0, 0, -1), -1);
        due("no such man", x.whatIs(0, 2, 0), -1);
        due("no such man, nothing", x.whatIs(1, -1, 0), -1);
        due("shelf", x.whatIs(8, 0, 0), -1);
        due("nothing", x.whatIs(1, 0, 0), -11);
        x.keep(1, 1, 0, 0);
        due("a kind", x.whatIs(1, 0, 0), -12);
    }

    private static void whereHung() {
        promise = "21 whereHung";
        PlumbLine x = told(one(1, 9, 0) + one(1, 9, 1) + one(1, 9, 1));
        shelveRow(x, 0, 0);
        due("an empty row", x.whereHung(0, 0), 80);
        due("the least", x.whereHung(0, 1), 0);
        due("the greatest", x.whereHung(0, 2), 97);
        shelveRow(x, 0, 0, 5);
        due("now", x.whereHung(0, 0), 10);
        due("the least", x.whereHung(0, 1), 5);
        due("the greatest", x.whereHung(0, 2), 95);
        // from 1 on with swings behind one day, which then are 1 or more
        shelveRow(x, 0, 0, 1, 2);
        due("swinging on", x.whereHung(0, 0), 8);
        due("the least", x.whereHung(0, 1), 21);
        due("the greatest", x.whereHung(0, 2), 91);
        // 1 2 1 is one swing on and one nearer
        shelveRow(x, 0, 1, 1, 2, 1);
        due("one", x.whereHung(0, 0), 1);
        due("the least", x.whereHung(0, 1), 21);
        due("the greatest", x.whereHung(0, 2), 21);
        shelveRow(x, 0, 2, Integer.MIN_VALUE, 2, Integer.MIN_VALUE);
        due("at 2 behind a day", x.whereHung(0, 0), 10);
        due("the least: from 3 nearer", x.whereHung(0, 1), 3);
        due("the greatest", x.whereHung(0, 2), 91);
        shelveRow(x, 0, 1, 0, 2);
        due("no such jump", x.whereHung(0, 0), 0);
        due("none", x.whereHung(0, 1), -4);
        due("none", x.whereHung(0, 2), -4);
        due("nothing changed", x.count(3), 0);
        due("what", x.whereHung(0, 3), -1);
        due("what", x.whereHung(0, -1), -1);
        due("what, nothing", x.whereHung(1, 3), -1);
        due("shelf", x.whereHung(-1, 0), -1);
        due("nothing", x.whereHung(1, 0), -11);
        x.keep(1, 1, 0, 0);
        due("a kind", x.whereHung(1, 0), -12);
    }

    private static void two() {
        promise = "22 two";
        due("both upright as they are", told(one(1, 9, 0) + one(1, 9, 0)).two(0, 1, 5), 0);
        due("crashes whatever they choose", told(crashing()).two(0, 1, 3), 0);
        // brokers at 6 of 6: unpropped they leave; propped, each has 6 less 2
        PlumbLine x = told(one(4, 3, 6) + one(4, 3, 6));
        due("both choose props", x.two(0, 1, 1), 11);
        // one upright is half: the crash is gone with one prop, but the wish pays, too
        PlumbLine y = told(one(4, 3, 6) + one(1, 0, 1));
        due("only the first gains", y.two(0, 1, 1), 10);
        due("asked the other way", y.two(1, 0, 1), 1);
        y.props(0);
        due("propped already costs nothing", y.two(0, 1, 1), 0);
        PlumbLine z = told(one(0, 0, 5) + one(1, 0, 45) + "r1;");
        // he comes to 6 on days 1, 13, 25 (each time a crash), is turned, and is upright a day later
        int[] days = {1, 2, 12, 13, 14, 24, 25, 26, 30};
        int[] propped = {1, 0, 0, 1, 0, 0, 1, 1, 1};
        for (int i = 0; i < days.length; i++) {
            due("behind " + days[i], z.two(0, 1, days[i]), 10 * propped[i]);
            due("the other way, behind " + days[i], z.two(1, 0, days[i]), propped[i]);
        }
        due("a third's leans count, too", told("m3250;m3746;m4953;m7459;r3;w70;").two(0, 1, 4), -4);
        due("a crash more at 997", twoBehind(997), 1);
        due("999 come to on the way", twoBehind(998), 1);
        due("999 already", twoBehind(999), 1);
        due("one twice", x.two(0, 0, 1), -1);
        due("no such man", x.two(0, 2, 1), -1);
        due("no such man", x.two(-1, 1, 1), -1);
        due("days", x.two(0, 1, 0), -1);
        due("days", x.two(0, 1, 31), -1);
    }

    /** The first and third of four men, three days on, behind days of which each had a crash. */
    private static int twoBehind(int days) {
        PlumbLine x = told(one(0, 0, 45) + one(0, 0, 45) + one(0, 0, 45) + one(0, 0, 45) + "r0;r1;r2;r3;");
        passDays(x, days);
        due("crashes", x.count(4), days);
        tell(x, "r0;r1;r2;r3;l050;l145;l258;l356;");
        return x.two(0, 2, 3);
    }

    private static void shocks() {
        promise = "23 shocks";
        // a broker at 0 goes east; the sign at 0 is none. From 1, limit 2: 1, 2, 3 ..
        PlumbLine x = told(one(4, 1, 1));
        due("certain now", x.shocks(0, 0, 2, 0), 1);
        due("below", x.shocks(0, 0, 2, 1), 1);
        due("certain behind 1", x.shocks(0, 1, 20, 0), 1);
        due("certain", x.shocks(0, 1, 20, 1), 1);
        due("never behind 2", x.shocks(0, 2, 3, 0), 0);
        due("never: 0 by 1", x.shocks(0, 2, 3, 1), 1);
        // a man at 6 with a propped one at 12 (mean 9): towards it, or from -6 (mean 3) to -5
        PlumbLine y = told(one(0, 0, 6) + one(1, 0, 12) + one(1, 9, 0) + "r1;");
        // sum 18, mean 6: stays 6; turned: sum 6, mean 2: -5, upright
        due("one in seven", y.shocks(0, 1, 7, 0), 1);
        due("one in seven", y.shocks(0, 1, 7, 1), 7);
        // unshocked 6, 6; shocked late -5; shocked at first -5, then mean 2 (7 by 3): -4; or 5, mean 5: 5
        due("two days: one less both quiet", y.shocks(0, 2, 7, 0), 13);
        due("two days", y.shocks(0, 2, 7, 1), 49);
        due("in least terms", y.shocks(0, 2, 2, 0), 3);
        due("in least terms", y.shocks(0, 2, 2, 1), 4);
        PlumbLine quaker = told(one(2, 0, 1));
        due("certain behind 7", quaker.shocks(0, 7, 20, 0), 1);
        due("certain behind 7", quaker.shocks(0, 7, 20, 1), 1);
        PlumbLine turned = told(one(4, 9, 0) + one(4, 2, 8) + one(1, 9, 0) + "r1;");
        due("a propped one is not turned", turned.shocks(1, 7, 20, 0), 0);
        due("no such man", x.shocks(1, 0, 2, 0), NOTHING);
        due("no such man", x.shocks(-1, 0, 2, 0), NOTHING);
        due("days", x.shocks(0, 8, 2, 0), NOTHING);
        due("days", x.shocks(0, -1, 2, 0), NOTHING);
        due("odds", x.shocks(0, 0, 1, 0), NOTHING);
        due("odds", x.shocks(0, 0, 21, 0), NOTHING);
        due("part", x.shocks(0, 0, 2, 2), NOTHING);
        due("part", x.shocks(0, 0, 2, -1), NOTHING);
    }

    private static void mean() {
        promise = "24 mean";
        PlumbLine none = new PlumbLine();
        due("nobody", none.mean(0), 0);
        due("nobody", none.mean(1), 1);
        PlumbLine x = told(one(0, 0, -45) + one(0, 0, -45));
        due("0 by 1", x.mean(0), 0);
        due("0 by 1", x.mean(1), 1);
        PlumbLine y = told(one(0, 0, 0) + one(0, 0, 1) + one(0, 0, 1) + one(0, 0, 4));
        due("186 by 4", y.mean(0), 93);
        due("186 by 4", y.mean(1), 2);
        due("one man", told(one(0, 0, 3)).mean(0), 48);
        due("one man", told(one(0, 0, 3)).mean(1), 1);
        due("part", y.mean(2), NOTHING);
        due("part", y.mean(-1), NOTHING);
    }

    // ---- told cards, years by seeds

    private static void forged() {
        promise = "25 forged";
        PlumbLine x = told(one(0, 0, 5) + one(0, 0, -5));
        shelveRow(x, 0, 0, 5, -5);
        due("true", x.forged(0), -4);
        shelveRow(x, 0, 0, 5);
        due("a shorter one", x.forged(0), -4);
        shelveRow(x, 0, 0);
        due("an empty one", x.forged(0), -4);
        shelveRow(x, 0, 1, 5, -4);
        due("the second", x.forged(0), 1);
        shelveRow(x, 0, 2, 4, -4);
        due("the first", x.forged(0), 0);
        shelveRow(x, 0, 0, 5, -5, 0);
        due("no such man", x.forged(0), 2);
        shelveRow(x, 0, 0, -128, -5);
        due("nothing is skipped", x.forged(0), 0);
        due("shelf", x.forged(8), -1);
        due("nothing", x.forged(1), -11);
        x.keep(1, 1, 0, 0);
        due("a kind", x.forged(1), -12);
    }

    private static void judge() {
        promise = "26 judge";
        PlumbLine x = told(one(2, 0, 3) + one(5, 0, 12));
        shelveRow(x, 0, 0, 0, 1, 1, 2, 2);
        due("true", x.judge(0), -4);
        shelveRow(x, 0, 0, 0, 1, 2, 2, 2);
        due("the third", x.judge(0), 2);
        shelveRow(x, 0, 1, -32768, 1, 1, -32768, 1);
        due("skipped", x.judge(0), 4);
        shelveRow(x, 0, 2, Integer.MIN_VALUE, -128);
        due("not the least of ints", x.judge(0), 1);
        shelveRow(x, 0, 0);
        due("an empty one", x.judge(0), -4);
        due("nothing changed", x.count(1), 0);
        due("shelf", x.judge(-1), -1);
        due("nothing", x.judge(1), -11);
        x.keep(1, 1, 0, 0);
        due("a kind", x.judge(1), -12);
    }

    private static void years() {
        promise = "27 years";
        due("nobody", new PlumbLine().years(20, 5, 0), 0);
        // seed 1: 1103527590 over 65536 is 16838, modulo 91 is 3: lean -42
        PlumbLine alone = told(one(2, 0, 0));
        due("from -42 a quaker is not upright behind 12", alone.years(1, 1, 0), 0);
        // a banker stays where he is drawn
        due("nor a banker", told(one(1, 9, 0)).years(1, 1, 0), 0);
        due("a scrubber goes far enough", told(one(5, 0, 0)).years(20, 1, 0), 20);
        // two bankers of 0: a crash on every day but when one is drawn at 0
        PlumbLine x = told(crashing() + "d03;");
        due("crashes more, not those of before", x.years(1, 1, 1), 12);
        due("of two years", x.years(2, 1, 1), 24);
        due("nothing changed", x.count(4), 3);
        due("years", x.years(0, 1, 0), -1);
        due("years", x.years(21, 1, 0), -1);
        due("what", x.years(1, 1, 2), -1);
        due("what", x.years(1, 1, -1), -1);
        PlumbLine bankers = told(one(1, 9, 0) + one(1, 9, 0) + one(1, 9, 0) + one(1, 9, 0));
        int seed = -7;
        int upright = 0;
        for (int year = 0; year < 20; year++) {
            for (int m = 0; m < 4; m++) {
                seed = (int) (seed * 1103515245L + 12345L);
                int lean = (int) ((seed & 0x7fffffffL) / 65536 % 91) - 45;
                upright += Math.abs(lean) <= 9 ? 1 : 0;
            }
        }
        due("the seed goes on", bankers.years(20, -7, 0), upright);
    }

    // ---- the image, what is told

    private static void image() {
        promise = "28 image";
        PlumbLine x = new PlumbLine();
        due("day", x.image(), 0);
        x.days(9);
        due("day", x.image(), 9);
        x.days(9);
        due("the later one", x.restore(), 9);
    }

    private static void restore() {
        promise = "29 restore";
        PlumbLine x = told(one(6, 4, -7) + "r0;w53;d02;");
        int lean = x.lean(0);
        int lead = x.count(2);
        x.image();
        due("one comes", tell(x, one(0, 0, 40) + "r0;w15;d05;l090;"), 5);
        x.keep(2, 1, 1, 1);
        due("day", x.restore(), 2);
        due("men", x.count(0), 1);
        due("day", x.count(1), 2);
        due("place", x.count(2), lead);
        due("swings", x.count(3), 3);
        due("propped", x.count(6), 1);
        due("lean", x.lean(0), lean);
        due("kind", x.man(0, 0), 6);
        due("figure", x.man(0, 1), 4);
        due("shelves stay", x.cost(2), 4);
        due("the text stays", x.element(7, 0), 'm');
        x.days(1);
        due("the image stays, too", x.restore(), 2);
        PlumbLine y = told(crashing());
        y.image();
        y.days(4);
        y.restore();
        due("crashes", y.count(4), 0);
        due("none", new PlumbLine().restore(), -3);
    }

    private static void count() {
        promise = "30 count";
        PlumbLine x = told(one(0, 0, 0) + one(1, 0, 9) + one(0, 0, 5) + "r1;w47;d01;");
        due("men", x.count(0), 3);
        due("day", x.count(1), 1);
        due("place", x.count(2), 0);
        due("swings", x.count(3), 3);
        due("crashes", x.count(4), 0);
        due("upright", x.count(5), 0b101);
        due("propped", x.count(6), 0b010);
        due("others", x.count(7), -1);
        due("others", x.count(-1), -1);
        due("crashes", told(crashing() + "d07;").count(4), 7);
    }

    // ---- shelves

    private static void keep() {
        promise = "31 keep";
        PlumbLine x = new PlumbLine();
        due("a kind", x.keep(7, 1, 7, 9), 0);
        due("held", x.cost(7), 6);
        due("nothing, the others do not matter", x.keep(7, 0, 99, -99), 0);
        due("nothing held", x.cost(7), -11);
        x.row(7, 0, 3);
        x.keep(7, 1, 2, 0);
        due("in place of a row", x.cost(7), 1);
        due("shelf", x.keep(8, 1, 0, 0), -1);
        due("shelf", x.keep(-1, 0, 0, 0), -1);
        due("what", x.keep(7, 2, 0, 0), -1);
        due("what", x.keep(7, -1, 0, 0), -1);
        due("kind", x.keep(7, 1, 8, 0), -1);
        due("kind", x.keep(7, 1, -1, 0), -1);
        due("figure", x.keep(7, 1, 0, 10), -1);
        due("figure", x.keep(7, 1, 0, -1), -1);
        due("nothing changed", x.cost(7), 1);
    }

    private static void row() {
        promise = "32 row";
        PlumbLine x = new PlumbLine();
        due("a hundred", x.row(0, 2, 100), 0);
        due("0 at first", x.element(0, 99), 0);
        x.put(0, 99, 5);
        x.put(0, 0, 5);
        due("anew", x.row(0, 1, 100), 0);
        due("0 again", x.element(0, 99), 0);
        due("0 again", x.element(0, 0), 0);
        due("none", x.row(0, 0, 0), 0);
        due("no element", thrownBy(x, 0, 0), 2);
        x.keep(1, 1, 0, 0);
        due("in place of a kind", x.row(1, 0, 1), 0);
        due("a row", x.cost(1), -12);
        due("above", x.row(0, 0, 101), -1);
        due("below", x.row(0, 0, -1), -14);
        due("far below", x.row(0, 0, Integer.MIN_VALUE), -14);
        due("sort", x.row(0, 3, 1), -1);
        due("sort, ahead of below", x.row(0, -1, -1), -1);
        due("shelf", x.row(8, 0, -1), -1);
        due("shelf", x.row(-1, 0, 1), -1);
        due("nothing changed", x.element(1, 0), 0);
    }

    private static void put() {
        promise = "33 put";
        PlumbLine x = new PlumbLine();
        int[] values = {127, 128, -128, -129, 255, 256, 32768, -32769, 65535, 1 << 31, -1};
        long[] bytes = {127, -128, -128, 127, -1, 0, 0, -1, -1, 0, -1};
        long[] shorts = {127, 128, -128, -129, 255, 256, -32768, 32767, -1, 0, -1};
        for (int i = 0; i < values.length; i++) {
            x.row(0, 0, 1);
            due("a byte", x.put(0, 0, values[i]), 0);
            due("a byte of " + values[i], x.element(0, 0), bytes[i]);
            x.row(0, 1, 1);
            x.put(0, 0, values[i]);
            due("a short of " + values[i], x.element(0, 0), shorts[i]);
            x.row(0, 2, 1);
            x.put(0, 0, values[i]);
            due("an int of " + values[i], x.element(0, 0), values[i]);
        }
        due("place", x.put(0, 1, 0), -13);
        due("place", x.put(0, -1, 0), -13);
        due("shelf", x.put(8, 0, 0), -1);
        due("nothing", x.put(1, 0, 0), -11);
        x.keep(1, 1, 0, 0);
        due("a kind", x.put(1, 0, 0), -12);
    }

    private static void element() {
        promise = "34 element";
        PlumbLine x = new PlumbLine();
        shelveRow(x, 0, 2, 7, -8);
        due("first", x.element(0, 0), 7);
        due("second", x.element(0, 1), -8);
        due("no such place", thrownBy(x, 0, 2), 2);
        due("no such place", thrownBy(x, 0, -1), 2);
        due("nothing", thrownBy(x, 1, 0), 2);
        x.keep(1, 1, 0, 0);
        due("a kind", thrownBy(x, 1, 0), 2);
        due("shelf", thrownBy(x, 8, 0), 1);
        due("shelf", thrownBy(x, -1, 0), 1);
    }

    private static void copy() {
        promise = "35 copy";
        PlumbLine x = new PlumbLine();
        shelveRow(x, 0, 1, 1, 2, 3, 4, 5);
        x.row(1, 1, 3);
        due("three", x.copy(0, 1, 1, 0, 3), 3);
        due("first", x.element(1, 0), 2);
        due("last", x.element(1, 2), 4);
        due("onto itself, on", x.copy(0, 0, 0, 1, 4), 4);
        for (int i = 0; i < 5; i++) {
            due("moved", x.element(0, i), i == 0 ? 1 : i);
        }
        due("onto itself, back", x.copy(0, 1, 0, 0, 4), 4);
        due("moved back", x.element(0, 3), 4);
        due("none", x.copy(0, 5, 1, 3, 0), 0);
        due("below", x.copy(0, 0, 1, 0, -1), -13);
        due("from", x.copy(0, 3, 1, 0, 3), -13);
        due("from", x.copy(0, -1, 1, 0, 1), -13);
        due("to", x.copy(0, 0, 1, 1, 3), -13);
        due("to", x.copy(0, 0, 1, -1, 1), -13);
        due("far", x.copy(0, Integer.MAX_VALUE, 1, 0, 1), -13);
        due("much", x.copy(0, 1, 1, 1, Integer.MAX_VALUE), -13);
        due("shelf", x.copy(8, 0, 1, 0, 0), -1);
        due("shelf", x.copy(0, 0, -1, 0, 0), -1);
        due("nothing", x.copy(2, 0, 1, 0, 1), -11);
        due("nothing", x.copy(0, 0, 2, 0, 1), -11);
        x.row(3, 0, 5);
        due("another sort", x.copy(0, 0, 3, 0, 1), -12);
        x.keep(4, 1, 0, 0);
        due("a kind", x.copy(4, 0, 1, 0, 1), -12);
        due("a kind", x.copy(0, 0, 4, 0, 1), -12);
        x.row(5, 1, 3);
        x.keep(5, 1, 0, 0);
        due("a kind where such a row was", x.copy(5, 0, 1, 0, 1), -12);
        due("a kind where such a row was", x.copy(0, 0, 5, 0, 1), -12);
        due("nothing ahead of a kind", x.copy(4, 0, 2, 0, 1), -11);
        due("a kind ahead of places", x.copy(4, 0, 1, 0, -1), -12);
    }

    private static void cost() {
        promise = "36 cost";
        PlumbLine x = new PlumbLine();
        int[] costs = {3, 8, 1, 2, 16, 0, 16, 6};
        for (int k = 0; k < 8; k++) {
            x.keep(0, 1, k, 5);
            due("kind " + k, x.cost(0), costs[k]);
        }
        refusedUnlessKind();
    }

    private static void toss() {
        promise = "37 toss";
        PlumbLine x = new PlumbLine();
        int[] failures = {5, 105, -15, 5, 105, -15, 216, 5};
        for (int k = 0; k < 8; k++) {
            x.keep(0, 1, k, 5);
            due("kind " + k, x.toss(0), failures[k]);
            due("it stays there", x.toss(0), failures[k]);
            x.keep(0, 1, k, 0);
            due("figure 0 of kind " + k, x.toss(0), -15);
        }
        refusedUnlessKind();
    }

    /** With eight men every number of a man and every place is in use. */
    private static void fullCity() {
        promise = "all of eight men";
        String three = one(1, 9, 0) + one(1, 9, 0) + one(1, 9, 0);
        PlumbLine x = told(three + three + one(1, 9, 0) + one(1, 9, 0) + "w97;");
        due("upright", x.days(1), 8);
        due("place", x.count(2), 0);
        due("upright", x.count(5), 255);
        for (int m = 0; m < 8; m++) {
            due("lean", x.lean(m), 0);
            due("trusted by the others", x.man(m, 5), 255 - (1 << m));
            due("told by all", x.tells(m), 255);
            due("straight", x.straight(m), 0);
            due("found while it swings", x.finds(m), m);
            due("likely", x.shocks(m, 7, 2, 0), 1);
        }
        due("most trusted", x.trust(0), 0);
        due("rivals", x.trust(1), 0);
        due("plumb", x.trust(2), 0);
        due("east", x.trust(3), 0);
        due("discounts", x.trust(4), 0);
        due("right one", x.right(0), 0);
        due("walls", x.right(1), 8);
        due("balance", x.right(2), 255);
        due("props", x.fewestProps(30), 0);
        due("push", x.push(20), -4);
        due("crash", x.crash(0), -4);
        due("still", x.crash(1), 0);
        due("two", x.two(7, 6, 30), 0);
        due("mean", x.mean(0), 45);
        shelveRow(x, 0, 0, 0, 0, 0, 0, 0, 0, 0, 0, 0);
        due("a ninth card", x.forged(0), 8);
        due("judged", x.judge(0), 0);
        due("what he did", x.whatIs(0, 7, 0), 0b10101111);
        due("years", x.years(20, 0, 1) >= 0 ? 1 : 0, 1);
        due("image", x.image(), 1);
        due("restored", x.restore(), 1);
        due("men", x.count(0), 8);
    }

    private static void refusedUnlessKind() {
        PlumbLine x = new PlumbLine();
        x.row(1, 0, 1);
        int[] shelves = {8, -1, 0, 1};
        int[] refusals = {-1, -1, -11, -12};
        for (int i = 0; i < shelves.length; i++) {
            due("shelf " + shelves[i], x.cost(shelves[i]), refusals[i]);
            due("shelf " + shelves[i], x.toss(shelves[i]), refusals[i]);
        }
    }
}
