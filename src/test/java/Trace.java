/** All that can be told of an object, down to its image and its sorts; behind it the object is another one. */
final class Trace {
    private static final int SHELVES = 8;
    private final PlumbLine line;
    private final StringBuilder told = new StringBuilder();

    private Trace(PlumbLine line) {
        this.line = line;
    }

    static String of(PlumbLine line) {
        Trace trace = new Trace(line);
        trace.city();
        trace.shelves();
        trace.sorts();
        trace.tell("image", line.restore());
        trace.city();
        trace.figures();
        return trace.told.toString();
    }

    /** What the shelves hold; it changes nothing. */
    static String ofShelves(PlumbLine line) {
        Trace trace = new Trace(line);
        trace.shelves();
        return trace.told.toString();
    }

    private void tell(String what, long number) {
        told.append(what).append(' ').append(number).append("; ");
    }

    private void city() {
        for (int what = 0; what <= 6; what++) {
            tell("count", line.count(what));
        }
        for (int m = 0; m < line.count(0); m++) {
            tell("lean", line.lean(m));
            tell("kind", line.man(m, 0));
            tell("figure", line.man(m, 1));
        }
    }

    private void shelves() {
        for (int d = 0; d < SHELVES; d++) {
            tell("cost", line.cost(d));
            tell("toss", line.toss(d));
            int i = 0;
            while (i <= 100 && tellElement(d, i)) {
                i++;
            }
        }
    }

    private boolean tellElement(int d, int i) {
        try {
            tell("element", line.element(d, i));
            return true;
        } catch (IllegalStateException noElement) {
            return false;
        }
    }

    private void sorts() {
        for (int d = 0; d < SHELVES; d++) {
            for (int e = 0; e < d; e++) {
                tell("one sort", line.copy(d, 0, e, 0, 0));
            }
        }
        for (int d = 0; d < SHELVES; d++) {
            if (line.put(d, 0, 70000) == 0) {
                tell("lowest bits", line.element(d, 0));
            }
        }
    }

    /** A kind's figure is told by all kinds only when one comes. */
    private void figures() {
        for (int d = 0; d < SHELVES; d++) {
            int m = line.comes(d, 0);
            tell("came", m);
            tell("figure", line.man(m, 1));
        }
    }
}
