import java.io.IOException;
import java.nio.file.Files;
import java.nio.file.Path;
import java.util.ArrayList;
import java.util.List;
import java.util.TreeSet;
import java.util.function.Supplier;
import java.util.regex.Matcher;
import java.util.regex.Pattern;

/** What the boundary tests share: a test for each sentence, answers that are due, refusals that change nothing. */
final class Boundary {
    static final int MIN = Integer.MIN_VALUE;
    static final int MAX = Integer.MAX_VALUE;
    static final long LEAN_REFUSED = 1000000001L;
    private static final Path DOC = Path.of("../shared/DOC.md");
    /** Words by which the document names a boundary; each of them must stand in a sentence that has a test. */
    private static final Pattern MARKS = Pattern.compile("\\d \\.\\. -?\\d|at most|at least|at first|above \\d|below 0|-[1-9]"
        + "|[Nn]obody|no such|no farther|no room|if there|if at 0|if 1 away|if something lacks|\\bcut\\b|skipped"
        + "|Without|behind the last|lowest bits|sign's bit|an int\\b|twice\\b|of several|more than else|one at least"
        + "|together are above|none are needed|itself not|already|in least terms|digits as told|do not matter");

    interface Call {
        long on(PlumbLine x);
    }

    interface NumberCall {
        long on(PlumbLine x, int number);
    }

    private static final List<String> quotes = new ArrayList<>();
    private static final TreeSet<Integer> promises = new TreeSet<>();
    private static String about = "";
    private static int answers;
    private static int wrong;

    private Boundary() { }

    // ---- tests

    /** The test of one sentence, told as it stands in the document. */
    static void test(int promise, String sentence, Runnable test) {
        quotes.add(sentence);
        promises.add(promise);
        about = "promise " + promise + ", '" + sentence + "': ";
        int before = answers;
        try {
            test.run();
        } catch (RuntimeException thrown) {
            fail("threw " + thrown);
        }
        if (answers == before) {
            fail("its test asks nothing");
        }
    }

    private static void fail(String what) {
        wrong++;
        if (wrong <= 50) {
            System.out.println(about + what);
        }
    }

    static void due(String call, long got, long want) {
        answers++;
        if (got != want) {
            fail(call + " answered " + got + ", due is " + want);
        }
    }

    /** The call is refused so, and the object goes on as one on which it was never tried. */
    static void refused(Supplier<PlumbLine> made, String call, long want, Call tried) {
        PlumbLine one = made.get();
        due(call, tried.on(one), want);
        String left = Trace.of(made.get());
        String found = Trace.of(one);
        if (!found.equals(left)) {
            fail(call + " was refused, and changed " + left + " to " + found);
        }
    }

    static void refusedEach(Supplier<PlumbLine> made, String call, long want, NumberCall tried, int... numbers) {
        for (int number : numbers) {
            refused(made, call.replace("?", "" + number), want, x -> tried.on(x, number));
        }
    }

    /** Of the call's number "?" those from the least to the most are taken, the next ones and far ones are refused. */
    static void range(Supplier<PlumbLine> made, String call, long refusal, NumberCall tried, int least, int most) {
        refusedEach(made, call, refusal, tried, MIN, least - 256, least - 1, most + 1, most + 256, MAX);
        for (int number : new int[] {least, Math.min(least + 1, most), Math.max(most - 1, least), most}) {
            answers++;
            if (tried.on(made.get(), number) == refusal) {
                fail(call.replace("?", "" + number) + " was refused");
            }
        }
    }

    // ---- objects

    /** The men of a city: kind, figure and lean of each. */
    static PlumbLine men(int... told) {
        return come(new PlumbLine(), told);
    }

    static PlumbLine come(PlumbLine x, int... told) {
        for (int i = 0; i < told.length; i += 3) {
            x.keep(0, 1, told[i], told[i + 1]);
            x.comes(0, told[i + 2]);
        }
        x.keep(0, 0, 0, 0);
        return x;
    }

    static PlumbLine onDay(int day) {
        PlumbLine x = new PlumbLine();
        pass(x, day);
        return x;
    }

    static void pass(PlumbLine x, int days) {
        for (int left = days; left > 0; left -= 60) {
            x.days(Math.min(60, left));
        }
    }

    static PlumbLine shelve(PlumbLine x, int d, int sort, int... values) {
        x.row(d, sort, values.length);
        for (int i = 0; i < values.length; i++) {
            x.put(d, i, values[i]);
        }
        return x;
    }

    static PlumbLine shelveText(PlumbLine x, int d, String text) {
        return shelve(x, d, 0, text.chars().toArray());
    }

    static int tell(PlumbLine x, String text) {
        return shelveText(x, 0, text).city(0);
    }

    static PlumbLine told(String text) {
        PlumbLine x = new PlumbLine();
        if (tell(x, text) < 0) {
            fail("no city: " + text);
        }
        return x;
    }

    /** Nothing of it is as at first: five men, one of them propped, crashes, an image of other days, all sorts of shelves. */
    static PlumbLine busy() {
        PlumbLine x = men(1, 0, 10, 1, 0, -20);
        x.hangs(5, 1);
        x.props(1);
        x.days(3);
        x.image();
        come(x, 7, 4, -45, 2, 3, 44, 4, 5, 6);
        x.props(3);
        x.hangs(2, 6);
        x.days(2);
        x.hangs(4, 5);
        shelveText(x, 0, "m0045;");
        shelve(x, 1, 1, -32768, 300, 7);
        shelve(x, 2, 2, MIN, 70000);
        x.row(3, 0, 0);
        x.keep(4, 1, 6, 9);
        x.row(6, 2, 20);
        x.put(6, 19, -5);
        x.keep(7, 1, 2, 0);
        return x;
    }

    /** Eight men: no room for another one. */
    static PlumbLine full() {
        PlumbLine x = men(0, 0, -45, 1, 9, 45, 2, 0, 0, 3, 1, 7, 4, 2, -8, 5, 3, 12, 6, 4, 1, 7, 5, -1);
        x.props(7);
        x.keep(4, 1, 0, 3);
        x.row(3, 1, 2);
        return x;
    }

    /** Two bankers who are upright never, and lean more never: each of their days is a crash. */
    static PlumbLine crashing(int days) {
        PlumbLine x = men(1, 0, 10, 1, 0, 20);
        pass(x, days);
        return x;
    }

    /**
     * A man, at 5 at first, who leaves his 5 on a day d with a crash (14 <= d <= 38): three bankers are upright, three
     * are not, and a broker goes 1 on a day. Behind d - 1 days he is at 5, the broker at d - 1, the bankers at
     * 44 - d in all: together 48, and the mean becomes 6.
     */
    static PlumbLine leavingOn(int d) {
        int rest = 44 - d;
        int some = rest / 3;
        return men(0, 0, 5, 1, 9, 0, 1, 9, 0, 1, 9, 0, 1, 0, some, 1, 0, some, 1, 0, rest - 2 * some, 4, 0, 0);
    }

    // ---- the document itself

    /** Looks whether the sentences are the document's, and whether one that names a boundary has none; tells how many fail. */
    static int finish() throws IOException {
        String doc = Files.readString(DOC);
        about = "the document: ";
        boolean[] tested = new boolean[doc.length()];
        for (String quote : quotes) {
            int at = doc.indexOf(quote);
            if (at < 0 || doc.indexOf(quote, at + 1) >= 0) {
                fail("stands there not just once: '" + quote + "'");
            }
            for (int i = Math.max(at, 0); i < at + quote.length(); i++) {
                tested[i] = true;
            }
        }
        int end = doc.indexOf("## Not promised");
        Matcher mark = MARKS.matcher(doc).region(doc.indexOf("==== I."), end);
        while (mark.find()) {
            if (!tested[mark.start()]) {
                int from = mark.start();
                fail("no test for '" + doc.substring(Math.max(0, from - 30), Math.min(end, from + 40)) + "'");
            }
        }
        for (int promise = 1; promise <= 37; promise++) {
            if (!promises.contains(promise)) {
                fail("no test for promise " + promise);
            }
        }
        System.out.println("BoundaryTest: " + quotes.size() + " sentences, " + answers + " answers, " + wrong + " wrong");
        return wrong;
    }
}
