import java.util.function.Supplier;

/** Promise 2: the text of a city, byte by byte. */
final class TextBoundaries {
    /** One statement of each letter, as a new city can take it behind the first. */
    private static final String[] WHOLE = {"m0045;", "l045;", "r0;", "w00;", "d01;"};
    private static final String LETTERS = "mlrwd";

    private TextBoundaries() { }

    static void all() {
        Boundary.test(2, "`int city(int d)`: The text in SHELF d: how many STATEMENTS; the FAULT. -1, -11, -12 (no ROW of "
            + "bytes).", TextBoundaries::shelves);
        Boundary.test(2, "STATEMENTS, each with \";\" behind, one at least", TextBoundaries::oneAtLeast);
        Boundary.test(2, "\"m\" KIND, FIGURE (a digit each), LEAN and 45 (2 digits): a man more;", TextBoundaries::manTold);
        Boundary.test(2, "\"l\" a man (a digit), LEAN and 45 (2 digits);", TextBoundaries::leanTold);
        Boundary.test(2, "\"r\" a man (a digit): PROPPED, or, told again, not;", TextBoundaries::propTold);
        Boundary.test(2, "\"w\" SWINGS, PLACE of THE LEAD (a digit each);", TextBoundaries::leadTold);
        Boundary.test(2, "\"d\" DAYS (2 digits, 1 .. 60).", TextBoundaries::daysTold);
        Boundary.test(2, "FAULT: kind 1 the place of the first byte with which no CITY can go on (the end, if something "
            + "lacks): -1000 less the place;", TextBoundaries::firstByte);
        Boundary.test(2, "numbers in THE TEXT have just as many digits as told;", TextBoundaries::digits);
        Boundary.test(2, "else kind 2 the place of the letter of the first STATEMENT that is not as it must be (a number out "
            + "of range, no such man, DAY above 999, no room): -2000 less the place.", TextBoundaries::firstStatement);
        Boundary.test(2, "MEN 0 .. 7 as they come (8 at most), of KINDS, each with a FIGURE (0 .. 9) and a LEAN (-45 .. 45; "
            + "below 0: to the west), PROPPED or not (not at first), in a PLACE: his number.", TextBoundaries::eightAtMost);
        Boundary.test(2, "days() is refused (-3; in THE TEXT kind 2), if DAY and n together are above 999; none of them goes "
            + "then.", TextBoundaries::lastDay);
        Boundary.test(2, "Without FAULT all of it comes, with one nothing.", TextBoundaries::allOrNothing);
        Boundary.test(2, "STATEMENTS are tried one behind the other, each on what those ahead of it made, and the first that "
            + "can't be done so is told (kind 2).", TextBoundaries::eachOnThoseAhead);
        Boundary.test(2, "The ROW of a text, and what is taken from a SHELF, stay there; when THE IMAGE is RESTORED, SHELVES "
            + "stay as they are.", TextBoundaries::textStays);
        Boundary.test(2, "A ROW has a SORT (0 bytes, 1 shorts, 2 ints) and 0 .. 100 elements, 0 at first; what is put in keeps "
            + "its lowest bits.", TextBoundaries::longestText);
    }

    // ---- helpers

    /** The text is refused so by a city of five men, and changes nothing. */
    private static void fault(String text, int want) {
        fault(Boundary::busy, text, want);
    }

    private static void fault(Supplier<PlumbLine> made, String text, int want) {
        Boundary.refused(() -> Boundary.shelveText(made.get(), 0, text), "city of '" + text + "'", want, x -> x.city(0));
    }

    private static PlumbLine taken(PlumbLine x, String text, int statements) {
        Boundary.due("city of '" + text + "'", Boundary.tell(x, text), statements);
        return x;
    }

    private static String two(int number) {
        return (number < 10 ? "0" : "") + number;
    }

    // ---- the shelf

    private static void shelves() {
        Boundary.refusedEach(Boundary::busy, "city(?)", -1, PlumbLine::city, Boundary.MIN, -256, -1, 8, 256, Boundary.MAX);
        Boundary.refused(Boundary::busy, "city of nothing", -11, x -> x.city(5));
        Boundary.refusedEach(Boundary::busy, "city(?), no ROW of bytes", -12, PlumbLine::city, 1, 2, 4, 6, 7);
        Boundary.refused(Boundary::busy, "city of no bytes", -1000, x -> x.city(3));
        Supplier<PlumbLine> emptyShorts = () -> Boundary.shelve(Boundary.busy(), 0, 1);
        Boundary.refused(emptyShorts, "city of no shorts", -12, x -> x.city(0));
        Supplier<PlumbLine> textOfInts = () -> Boundary.shelve(Boundary.busy(), 0, 2, 'r', '0', ';');
        Boundary.refused(textOfInts, "a text of ints", -12, x -> x.city(0));
        for (int d = 0; d < 8; d++) {
            PlumbLine x = new PlumbLine();
            Boundary.due("city of SHELF " + d, Boundary.shelveText(x, d, "m1955;m0000;").city(d), 2);
            Boundary.due("men", x.count(0), 2);
            Boundary.due("LEAN", x.lean(0), 10);
        }
    }

    private static void oneAtLeast() {
        fault("", -1000);
        fault(";", -1000);
        fault(";m0045;", -1000);
        fault("m0045;;", -1006);
        fault("m0045", -1005);
        fault("m0045;r0", -1008);
        taken(new PlumbLine(), "m0045;", 1);
        taken(new PlumbLine(), "m0045;r0;", 2);
        taken(new PlumbLine(), "w00;", 1);
    }

    // ---- statements

    private static void manTold() {
        for (int kind = 0; kind <= 9; kind++) {
            for (int lean : new int[] {0, 1, 44, 45, 46, 89, 90, 91, 92, 99}) {
                String text = "m" + kind + (9 - kind) + two(lean) + ";";
                if (kind <= 7 && lean <= 90) {
                    PlumbLine x = taken(new PlumbLine(), text, 1);
                    Boundary.due("men by " + text, x.count(0), 1);
                    Boundary.due("KIND by " + text, x.man(0, 0), kind);
                    Boundary.due("FIGURE by " + text, x.man(0, 1), 9 - kind);
                    Boundary.due("LEAN by " + text, x.lean(0), lean - 45);
                    Boundary.due("PROPPED by " + text, x.count(6), 0);
                } else {
                    fault(text, -2000);
                }
            }
        }
    }

    private static void leanTold() {
        for (int lean : new int[] {0, 1, 44, 45, 46, 89, 90}) {
            Boundary.due("LEAN", taken(Boundary.busy(), "l4" + two(lean) + ";", 1).lean(4), lean - 45);
            Boundary.due("LEAN", taken(Boundary.busy(), "l0" + two(lean) + ";", 1).lean(0), lean - 45);
        }
        for (int lean = 91; lean <= 99; lean++) {
            fault("l4" + lean + ";", -2000);
            fault("l5" + lean + ";", -2000);
        }
        for (int m = 5; m <= 9; m++) {
            fault("l" + m + "45;", -2000);
        }
        fault(PlumbLine::new, "l045;", -2000);
        taken(Boundary.full(), "l745;", 1);
        fault(Boundary::full, "l845;", -2000);
        PlumbLine x = taken(Boundary.full(), "l390;", 1);
        Boundary.due("the one told of", x.lean(3), 45);
        Boundary.due("the one ahead stays", x.lean(2), 0);
        Boundary.due("the one behind stays", x.lean(4), -8);
    }

    private static void propTold() {
        for (int m = 5; m <= 9; m++) {
            fault("r" + m + ";", -2000);
        }
        fault(PlumbLine::new, "r0;", -2000);
        fault(Boundary::full, "r8;", -2000);
        Boundary.due("told once", taken(Boundary.full(), "r0;", 1).count(6), 0b10000001);
        Boundary.due("told of one PROPPED", taken(Boundary.full(), "r7;", 1).count(6), 0);
        Boundary.due("told again", taken(Boundary.full(), "r0;r0;", 2).count(6), 0b10000000);
        Boundary.due("told three times", taken(Boundary.full(), "r6;r6;r6;", 3).count(6), 0b11000000);
    }

    private static void leadTold() {
        for (int swings = 0; swings <= 9; swings++) {
            for (int place = 0; place <= 9; place++) {
                String text = "w" + swings + place + ";";
                if (place <= 7) {
                    PlumbLine x = taken(Boundary.busy(), text, 1);
                    Boundary.due("SWINGS by " + text, x.count(3), swings);
                    Boundary.due("PLACE by " + text, x.count(2), place);
                } else {
                    fault(text, -2000);
                }
            }
        }
    }

    private static void daysTold() {
        for (int n : new int[] {1, 2, 9, 10, 59, 60}) {
            PlumbLine x = taken(new PlumbLine(), "d" + two(n) + ";", 1);
            Boundary.due("DAY behind " + n, x.count(1), n);
            Boundary.due("LEAN behind " + n, taken(Boundary.men(2, 0, 45, 5, 0, 0), "d" + two(n) + ";", 1).lean(0),
                Math.max(0, 45 - n));
        }
        fault("d00;", -2000);
        fault("d61;", -2000);
        fault("d62;", -2000);
        fault("d99;", -2000);
    }

    // ---- faults of kind 1

    private static void firstByte() {
        for (String whole : WHOLE) {
            for (int at = 0; at < whole.length(); at++) {
                String lacking = whole.substring(0, at);
                fault(lacking, -1000 - at);
                if (at > 0) {
                    fault("w12;" + lacking, -1004 - at);
                }
                everyByte(whole, at);
            }
        }
        String[] twice = {"x0045;y", "m00x5y", "m0045:d0x;", "r0;l0450"};
        int[] places = {0, 3, 5, 7};
        for (int i = 0; i < twice.length; i++) {
            fault(twice[i], -1000 - places[i]);
        }
    }

    private static void everyByte(String whole, int at) {
        for (int sign = -128; sign <= 127; sign++) {
            boolean goesOn = at == 0 ? sign > 0 && LETTERS.indexOf(sign) >= 0
                : at == whole.length() - 1 ? sign == ';' : sign >= '0' && sign <= '9';
            PlumbLine x = Boundary.shelveText(new PlumbLine(), 0, "w12;" + whole);
            x.put(0, 4 + at, sign);
            int answer = x.city(0);
            if (!goesOn) {
                Boundary.due(whole + " with " + sign + " at " + at, answer, -1004 - at);
                Boundary.due("SWINGS", x.count(3), 0);
            } else {
                Boundary.due("a fault at " + at + " of " + whole + " with " + sign, answer == -1004 - at ? 1 : 0, 0);
            }
        }
    }

    private static void digits() {
        String[] less = {"m004;", "m0;", "m;", "l04;", "l0;", "l;", "r;", "w0;", "w;", "d1;", "d;"};
        for (String text : less) {
            fault(text, -1000 - (text.length() - 1));
        }
        for (String whole : WHOLE) {
            fault(whole.substring(0, whole.length() - 1) + "0;", -1000 - (whole.length() - 1));
        }
        fault("d001;", -1003);
        fault("m00+5;", -1003);
        fault("l0-5;", -1002);
        fault("r 0;", -1001);
    }

    // ---- faults of kind 2

    private static void firstStatement() {
        String[] bad = {"m8045;", "m9045;", "m0091;", "l645;", "l091;", "r6;", "w08;", "d00;", "d61;"};
        for (String statement : bad) {
            fault(statement, -2000);
            fault("m0045;" + statement, -2006);
            fault("m0045;w00;" + statement + "r9;", -2010);
            fault(statement + "x", -1000 - statement.length());
            fault(statement + "r", -1000 - statement.length() - 1);
        }
        fault(() -> Boundary.onDay(999), "w00;d01;", -2004);
        fault(Boundary::full, "w00;d01;m0045;", -2008);
        fault(Boundary::full, "m0045;x", -1006);
        fault(Boundary::full, "m0045", -1005);
        fault(() -> Boundary.onDay(999), "d01;d1;", -1006);
        taken(Boundary.busy(), "m0045;l545;r5;w07;d60;", 5);
    }

    private static void eightAtMost() {
        String man = "m0045;";
        PlumbLine x = taken(new PlumbLine(), man.repeat(7), 7);
        Boundary.due("seven", x.count(0), 7);
        taken(x, man, 1);
        Boundary.due("eight", x.count(0), 8);
        Boundary.due("not PROPPED", x.count(6), 0);
        Boundary.due("eight at once", taken(new PlumbLine(), man.repeat(8), 8).count(0), 8);
        fault(PlumbLine::new, man.repeat(9), -2048);
        fault(() -> Boundary.told(man), man.repeat(8), -2042);
        fault(() -> Boundary.told(man.repeat(7)), man.repeat(2), -2006);
        fault(Boundary::full, man, -2000);
        fault(Boundary::full, "m8091;", -2000);
    }

    private static void lastDay() {
        for (int n : new int[] {1, 2, 59, 60}) {
            String text = "d" + two(n) + ";";
            Boundary.due("DAY", taken(Boundary.onDay(998 - n), text, 1).count(1), 998);
            Boundary.due("DAY", taken(Boundary.onDay(999 - n), text, 1).count(1), 999);
            fault(() -> Boundary.onDay(1000 - n), text, -2000);
            fault(() -> Boundary.onDay(999), text, -2000);
        }
        Boundary.due("DAY", taken(Boundary.onDay(940), "d30;d29;", 2).count(1), 999);
        fault(() -> Boundary.onDay(940), "d30;d30;", -2004);
        fault(() -> Boundary.onDay(999), "d00;", -2000);
        fault(() -> Boundary.come(Boundary.onDay(999), 2, 0, 45), "d01;", -2000);
    }

    private static void allOrNothing() {
        String[] ends = {"r9;", "d00;", "x", "m0045", ";"};
        String text = "m7990;l000;r0;r1;w98;d07;";
        fault(text, -2017);
        String good = "m7990;l000;r0;r1;w97;d07;";
        for (String end : ends) {
            int place = good.length();
            int inside = end.equals("m0045") ? 5 : 0;
            fault(good + end, (end.equals("r9;") || end.equals("d00;") ? -2000 : -1000) - place - inside);
        }
        PlumbLine x = taken(Boundary.men(0, 0, 9), good.replace("r1;", "r1;l120;"), 7);
        Boundary.due("men", x.count(0), 2);
        Boundary.due("the first's LEAN", x.lean(0), -45);
        Boundary.due("the second's LEAN", x.lean(1), -25);
        Boundary.due("PROPPED", x.count(6), 3);
        Boundary.due("DAY", x.count(1), 7);
        Boundary.due("CRASHES", x.count(4), 7);
        Boundary.due("SWINGS", x.count(3), 9);
        Boundary.due("PLACE", x.count(2), 0);
    }

    private static void eachOnThoseAhead() {
        fault(PlumbLine::new, "r0;m0045;", -2000);
        taken(new PlumbLine(), "m0045;r0;", 2);
        fault(PlumbLine::new, "m0045;r1;m0045;", -2006);
        taken(new PlumbLine(), "m0045;m0045;r1;l190;", 4);
        fault("r5;r6;", -2000);
        fault("m0045;r5;r6;", -2009);
        PlumbLine x = taken(new PlumbLine(), "m2050;d01;l060;d02;m0045;d01;", 6);
        Boundary.due("a LEAN told between DAYS", x.lean(0), 12);
        Boundary.due("DAY", x.count(1), 4);
        PlumbLine propped = taken(new PlumbLine(), "m2050;r0;d05;r0;d02;", 5);
        Boundary.due("PROPPED for five of seven DAYS", propped.lean(0), 3);
    }

    private static void textStays() {
        PlumbLine x = taken(new PlumbLine(), "m0050;", 1);
        for (int i = 0; i < 6; i++) {
            Boundary.due("byte " + i, x.element(0, i), "m0050;".charAt(i));
        }
        Boundary.due("told again", x.city(0), 1);
        Boundary.due("two men", x.count(0), 2);
        x.image();
        Boundary.due("and again", x.city(0), 1);
        x.restore();
        Boundary.due("two men", x.count(0), 2);
        Boundary.due("the text stays behind restore()", x.city(0), 1);
    }

    private static void longestText() {
        String hundred = "m0045;l090;w97;d01;" + "r0;".repeat(27);
        PlumbLine x = taken(new PlumbLine(), hundred, 31);
        Boundary.due("told 27 times", x.count(6), 1);
        String ninetyNine = "r0;".repeat(33);
        fault(() -> Boundary.men(0, 0, 0), ninetyNine + "r", -1100);
        fault(() -> Boundary.men(0, 0, 0), ninetyNine + ";", -1099);
        fault(() -> Boundary.men(0, 0, 0), ninetyNine.substring(3) + "r1;r", -1100);
        fault(() -> Boundary.men(0, 0, 0), ninetyNine.substring(3) + "r1;", -2096);
        taken(Boundary.men(0, 0, 0), "w00;" + ninetyNine.substring(3), 33);
    }
}
