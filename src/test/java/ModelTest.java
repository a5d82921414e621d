import java.util.Random;

/** Plays runs by fixed seeds on the program and on the model, and compares every answer. */
public final class ModelTest {
    /** Cities found by search, in which each figure of the questions decides something. */
    private static final String[] LISTED = {"m3620;m4655;m4507;m2751;r3;m0738;", "m7379;m7053;m1942;m4939;",
        "m5249;r0;m0711;m3954;m3744;", "m7235;m1137;m6551;m6644;m7013;", "m3853;m6854;m3303;",
        "m3743;m0223;m2701;m1646;m1054;", "m0037;m4953;m5351;m2067;m4783;r4;m7462;r5;m7035;",
        "m3250;m3746;m4953;m7459;r3;w70;", "m7313;m3637;m6642;m5600;m3119;m0839;",
        "m7140;r0;m3545;m7539;m7390;m0151;m7602;m0063;r6;m6124;w47;",
        "m7990;m7990;m7655;m7452;m6930;r4;m3752;m7505;", "m7990;m7906;m3047;m7919;m4830;r4;m7790;m7553;"};
    private static final int RUNS = 1200;
    private static final int CALLS = 200;
    private static final int LATE_RUNS = 300;
    private static int wrong;
    private static final int[] asked = new int[37];

    private final Random random;
    private final PlumbLine line = new PlumbLine();
    private final CityModel model = new CityModel();
    private String call = "";
    private long got;
    private long due;

    private ModelTest(int seed) {
        random = new Random(seed);
    }

    public static void main(String[] args) {
        int calls = 0;
        for (int run = 0; run < RUNS && wrong < 20; run++) {
            ModelTest test = new ModelTest(run);
            for (int i = 0; i < CALLS && wrong < 20; i++) {
                calls++;
                test.callOne(run);
            }
        }
        for (int i = 0; i < LISTED.length; i++) {
            new ModelTest(i).compareListed(LISTED[i]);
        }
        for (int run = 0; run < LATE_RUNS && wrong < 20; run++) {
            new ModelTest(run).compareAtMostCrashes();
        }
        for (int i = 0; i < asked.length; i++) {
            if (asked[i] == 0) {
                wrong++;
                System.out.println("the call numbered " + i + " was never made");
            }
        }
        System.out.println("ModelTest: " + calls + " calls, " + wrong + " wrong");
        if (wrong != 0) {
            System.exit(1);
        }
    }

    // ---- arguments: mostly good ones, at times the next beyond, seldom any

    private int number(int least, int most) {
        int dice = random.nextInt(40);
        if (dice == 0) {
            return random.nextBoolean() ? least - 1 : most + 1;
        }
        return dice == 1 ? random.nextInt() : least + random.nextInt(most - least + 1);
    }

    private int manNumber() {
        int men = line.count(0);
        return random.nextInt(12) == 0 || men == 0 ? number(0, 7) : random.nextInt(men);
    }

    private int shelf() {
        return random.nextInt(10) == 0 ? number(0, 7) : random.nextInt(3);
    }

    private int leanNumber() {
        return random.nextInt(3) == 0 ? number(-12, 12) : number(-45, 45);
    }

    // ---- listed cities

    private void compareListed(String text) {
        int[] values = text.chars().toArray();
        shelve(0, 0, values);
        due("city of " + text, line.city(0), model.city(0));
        for (int n = 0; n <= 30; n++) {
            for (int a = 0; a < line.count(0); a++) {
                due(text + " finds " + a, line.finds(a), model.finds(a));
                due(text + " straight " + a, line.straight(a), model.straight(a));
                for (int b = 0; b < line.count(0); b++) {
                    due(text + " two " + a + " " + b + " " + n, line.two(a, b, n), model.two(a, b, n));
                }
            }
        }
        due(text + " crash", line.crash(0), model.crash(0));
        for (int n = 0; n <= 2; n++) {
            due(text + " push " + n, line.push(n), model.push(n));
        }
    }

    // ---- cities whose crashes stand at the most, or near to it

    /** All stand propped at 45 and crash on each day; then they are let go, with other leans. */
    private void compareAtMostCrashes() {
        StringBuilder begin = new StringBuilder();
        StringBuilder text = new StringBuilder();
        int men = 2 + random.nextInt(6);
        for (int m = 0; m < men; m++) {
            begin.append("m").append(random.nextInt(8)).append(random.nextInt(10)).append("90;r").append(m).append(';');
            text.append(random.nextInt(8) == 0 ? "" : "r" + m + ";").append("l").append(m)
                .append(two(random.nextInt(3) == 0 ? random.nextInt(91) : 30 + random.nextInt(31))).append(";");
        }
        tellBoth(begin.toString());
        tellBoth("d60;".repeat(16) + "d" + (36 + random.nextInt(4)) + ";");
        tellBoth(text.toString());
        String city = begin + " " + text + " by " + line.count(4) + " crashes: ";
        due(city + "count 4", line.count(4), model.count(4));
        due(city + "crash", line.crash(0), model.crash(0));
        for (int n = 1; n <= 30; n++) {
            due(city + "then " + n, line.then(n, 2), model.then(n, 2));
            int a = random.nextInt(men);
            int b = random.nextInt(men);
            due(city + "two " + a + " " + b + " " + n, line.two(a, b, n), model.two(a, b, n));
        }
        int n = 1 + random.nextInt(8);
        due(city + "fewestProps " + n, line.fewestProps(n), model.fewestProps(n));
        due(city + "years " + n, line.years(n, men, 1), model.years(n, men, 1));
    }

    private void tellBoth(String text) {
        shelve(0, 0, text.chars().toArray());
        due("city of " + text, line.city(0), model.city(0));
    }

    private static void due(String call, long got, long due) {
        if (got != due) {
            wrong++;
            System.out.println(call + " answered " + got + ", due is " + due);
        }
    }

    // ---- calls

    private void answers(String name, long fromLine, long fromModel) {
        call = name;
        got = fromLine;
        due = fromModel;
    }

    private void callOne(int run) {
        int dice = random.nextInt(60);
        if (dice < 37) {
            asked[dice]++;
            one(dice);
        } else if (dice < 42) {
            shelveText();
        } else if (dice < 47) {
            shelveCourse();
        } else if (dice < 54 && line.count(0) < 3 + run % 6) {
            asked[28]++;
            line.keep(3, 1, run % 8, run % 10);
            model.keep(3, 1, run % 8, run % 10);
            int d = random.nextBoolean() ? 3 : shelf();
            int l = leanNumber();
            answers("comes " + d + " " + l, line.comes(d, l), model.comes(d, l));
        } else {
            int n = 1 + random.nextInt(4);
            answers("days " + n, line.days(n), model.days(n));
        }
        compare(run);
    }

    private void compare(int run) {
        if (got != due) {
            wrong++;
            System.out.println("run " + run + ": " + call + " answered " + got + ", due is " + due);
        }
        for (int what = 0; what <= 6; what++) {
            if (line.count(what) != model.count(what)) {
                wrong++;
                System.out.println("run " + run + ": behind " + call + " count " + what + " is "
                    + line.count(what) + ", due is " + model.count(what));
            }
        }
        for (int m = 0; m < 8; m++) {
            if (line.lean(m) != model.lean(m)) {
                wrong++;
                System.out.println("run " + run + ": behind " + call + " lean " + m + " is "
                    + line.lean(m) + ", due is " + model.lean(m));
            }
        }
    }

    private void one(int which) {
        int a;
        int b;
        int c;
        int d = shelf();
        int m = manNumber();
        switch (which) {
            case 0: answers("city " + d, line.city(d), model.city(d)); break;
            case 1: answers("lean " + m, line.lean(m), model.lean(m)); break;
            case 2: a = number(0, 5); answers("man " + m + " " + a, line.man(m, a), model.man(m, a)); break;
            case 3: a = leanNumber(); answers("comes " + d + " " + a, line.comes(d, a), model.comes(d, a)); break;
            case 4: a = leanNumber(); answers("pushes " + m + " " + a, line.pushes(m, a), model.pushes(m, a)); break;
            case 5: answers("props " + m, line.props(m), model.props(m)); break;
            case 6: a = number(0, 9); b = number(0, 7);
                answers("hangs " + a + " " + b, line.hangs(a, b), model.hangs(a, b)); break;
            case 7: a = number(1, 60); answers("days " + a, line.days(a), model.days(a)); break;
            case 8: a = number(0, 60); answers("leanThen " + m + " " + a, line.leanThen(m, a), model.leanThen(m, a)); break;
            case 9: a = number(0, 60); b = number(0, 3);
                answers("then " + a + " " + b, line.then(a, b), model.then(a, b)); break;
            case 10: answers("straight " + m, line.straight(m), model.straight(m)); break;
            case 11: a = number(0, 1); answers("crash " + a, line.crash(a), model.crash(a)); break;
            case 12: answers("finds " + m, line.finds(m), model.finds(m)); break;
            case 13: a = number(0, 4); answers("trust " + a, line.trust(a), model.trust(a)); break;
            case 14: answers("tells " + m, line.tells(m), model.tells(m)); break;
            case 15: a = number(1, 30); answers("fewestProps " + a, line.fewestProps(a), model.fewestProps(a)); break;
            case 16: a = number(0, 20); answers("push " + a, line.push(a), model.push(a)); break;
            case 17: a = number(0, 2); answers("right " + a, line.right(a), model.right(a)); break;
            case 18: a = number(0, 1);
                answers("whatIs " + d + " " + m + " " + a, line.whatIs(d, m, a), model.whatIs(d, m, a)); break;
            case 19: a = number(0, 2); answers("whereHung " + d + " " + a, line.whereHung(d, a), model.whereHung(d, a)); break;
            case 20: a = manNumber(); b = number(1, 30);
                answers("two " + m + " " + a + " " + b, line.two(m, a, b), model.two(m, a, b)); break;
            case 21: a = number(0, 7); b = number(2, 20); c = number(0, 1);
                answers("shocks " + m + " " + a + " " + b + " " + c, line.shocks(m, a, b, c), model.shocks(m, a, b, c)); break;
            case 22: a = number(0, 1); answers("mean " + a, line.mean(a), model.mean(a)); break;
            default: oneMore(which, d, m); break;
        }
    }

    private void oneMore(int which, int d, int m) {
        int a;
        int b;
        int c;
        switch (which) {
            case 23: answers("forged " + d, line.forged(d), model.forged(d)); break;
            case 24: answers("judge " + d, line.judge(d), model.judge(d)); break;
            case 25: a = number(1, 20); b = random.nextInt(); c = number(0, 1);
                answers("years " + a + " " + b + " " + c, line.years(a, b, c), model.years(a, b, c)); break;
            case 26: answers("image", line.image(), model.image()); break;
            case 27: answers("restore", line.restore(), model.restore()); break;
            case 28: a = number(0, 6); answers("count " + a, line.count(a), model.count(a)); break;
            case 29: a = number(0, 1); b = number(0, 7); c = number(0, 9);
                answers("keep " + d + " " + a + " " + b + " " + c, line.keep(d, a, b, c), model.keep(d, a, b, c)); break;
            case 30: a = number(0, 2); b = random.nextInt(5) == 0 ? number(0, 100) : number(0, 6);
                answers("row " + d + " " + a + " " + b, line.row(d, a, b), model.row(d, a, b)); break;
            case 31: a = number(0, 5); b = random.nextBoolean() ? random.nextInt() : leanNumber();
                answers("put " + d + " " + a + " " + b, line.put(d, a, b), model.put(d, a, b)); break;
            case 32: a = number(0, 5);
                answers("element " + d + " " + a, elementOf(d, a), model.element(d, a)); break;
            case 33: copies(d); break;
            case 34: answers("cost " + d, line.cost(d), model.cost(d)); break;
            case 35: answers("toss " + d, line.toss(d), model.toss(d)); break;
            default: a = number(0, 5); answers("man " + m + " " + a, line.man(m, a), model.man(m, a)); break;
        }
    }

    private long elementOf(int d, int i) {
        try {
            return line.element(d, i);
        } catch (IllegalArgumentException e) {
            return Integer.MAX_VALUE + 1L;
        } catch (IllegalStateException e) {
            return Integer.MAX_VALUE + 2L;
        }
    }

    private void copies(int d) {
        int e = shelf();
        int i = number(0, 3);
        int j = number(0, 3);
        int n = number(0, 3);
        answers("copy " + d + " " + i + " " + e + " " + j + " " + n,
            line.copy(d, i, e, j, n), model.copy(d, i, e, j, n));
    }

    // ---- rows that mean something

    private void shelve(int d, int sort, int[] values) {
        line.row(d, sort, values.length);
        model.row(d, sort, values.length);
        for (int i = 0; i < values.length; i++) {
            line.put(d, i, values[i]);
            model.put(d, i, values[i]);
        }
    }

    private void shelveText() {
        StringBuilder text = new StringBuilder();
        int statements = 1 + random.nextInt(6);
        for (int i = 0; i < statements; i++) {
            text.append(statement());
        }
        if (random.nextInt(5) == 0) {
            text.setCharAt(random.nextInt(text.length()), "mlrwd;0123456789 x".charAt(random.nextInt(18)));
        }
        if (random.nextInt(8) == 0) {
            text.setLength(random.nextInt(text.length()));
        }
        int[] values = new int[text.length()];
        for (int i = 0; i < values.length; i++) {
            values[i] = text.charAt(i);
        }
        int d = random.nextInt(3);
        shelve(d, 0, values);
        answers("city " + text, line.city(d), model.city(d));
    }

    private String statement() {
        int seldom = random.nextInt(12) == 0 ? 1 : 0;
        switch (random.nextInt(7)) {
            case 0:
            case 1: return "m" + random.nextInt(8 + seldom) + random.nextInt(10) + two(random.nextInt(91 + 9 * seldom)) + ";";
            case 2: return "l" + Math.floorMod(manNumber(), 10) + two(random.nextInt(91 + 9 * seldom)) + ";";
            case 3: return "r" + Math.floorMod(manNumber(), 10) + ";";
            case 4: return "w" + random.nextInt(10) + random.nextInt(8 + seldom) + ";";
            default: return "d" + two((1 - seldom) + random.nextInt(12 + 60 * seldom)) + ";";
        }
    }

    private static String two(int n) {
        return (n < 10 ? "0" : "") + n;
    }

    /** A row of what will be, at times with a skipped or a false element. */
    private void shelveCourse() {
        int n = random.nextInt(random.nextInt(8) == 0 ? 61 : 8);
        int sort = random.nextInt(3);
        int about = random.nextInt(4);
        int m = manNumber();
        int[] values = new int[n];
        for (int i = 0; i < n; i++) {
            switch (about) {
                case 0: values[i] = (int) model.leanThen(m, i); break;
                case 1: values[i] = (int) model.then(i, 0); break;
                case 2: values[i] = Integer.bitCount((int) model.then(i, 3)); break;
                default: values[i] = (int) model.lean(i); break;
            }
            if (random.nextInt(6) == 0) {
                values[i] = new int[] {-128, -32768, Integer.MIN_VALUE}[sort];
            }
            if (random.nextInt(20) == 0) {
                values[i] += random.nextInt(3) - 1;
            }
        }
        int d = random.nextInt(3);
        shelve(d, sort, values);
        int what = random.nextInt(3);
        switch (about) {
            case 0: answers("whatIs " + d + " " + m, line.whatIs(d, m, what), model.whatIs(d, m, what)); break;
            case 1: answers("whereHung " + d + " " + what, line.whereHung(d, what), model.whereHung(d, what)); break;
            case 2: answers("judge " + d, line.judge(d), model.judge(d)); break;
            default: answers("forged " + d, line.forged(d), model.forged(d)); break;
        }
    }
}
