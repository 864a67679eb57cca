import java.util.function.Consumer;

/** Promises 15 and 16: zone, heard. */
public final class ZonesTest {
    private static final Due DUE = new Due();
    private static final String ZONE = "Promise 15: zone";
    private static final String HEARD = "Promise 16: heard";
    private static final int[] NO_PLACES = {-10001, 10001, -10002, 65536, Integer.MIN_VALUE, Integer.MAX_VALUE};
    private static final int[] NO_RADII = {0, -1, 10001, 65536 + 1, Integer.MIN_VALUE, Integer.MAX_VALUE};

    public static void main(String[] args) {
        itsNumber();
        moreThanATouch();
        lowestOne();
        noNewOne();
        sixteen();
        noMiddleOrRadius();
        inAZone();
        onItsRing();
        lowestOfTwo();
        inNone();
        noPoint();
        DUE.end();
    }

    private static void itsNumber() {
        DUE.sentence(ZONE, "A zone: its number");
        CaptionLines c = new CaptionLines();
        for (int n = 0; n < 16; n++) {
            int of = n;
            DUE.answers(of, "zone number " + of, () -> c.zone(of * 10, 0, 5));
            DUE.answers(of + 1, "zones", () -> c.count(3));
            DUE.answers(of, "heard in its middle", () -> c.heard(of * 10, 0));
        }
    }

    private static void beside(int x, int y, int radius, int want) {
        CaptionLines c = new CaptionLines();
        c.zone(0, 0, 5);
        DUE.answers(want, "zone(" + x + ", " + y + ", " + radius + ") beside (0, 0, 5)", () -> c.zone(x, y, radius));
    }

    private static void moreThanATouch() {
        DUE.sentence(ZONE, "with which it has more than a touch in common");
        beside(10, 0, 5, 1);
        beside(9, 0, 5, -1);
        beside(-10, 0, 5, 1);
        beside(-9, 0, 5, -1);
        beside(0, 11, 6, 1);
        beside(0, 10, 6, -1);
        beside(0, -6, 1, 1);
        beside(0, -6, 2, -1);
        beside(6, 8, 5, 1);
        beside(6, 8, 6, -1);
        beside(-6, 7, 5, -1);
        beside(7, 7, 5, -1);
        beside(7, 8, 5, 1);
        beside(0, 0, 5, -1);
        beside(1, 1, 1, -1);
        beside(3, 0, 2, -1);
        beside(0, 0, 4, -1);
        beside(0, 0, 6, -1);
        beside(0, 1, 10, -1);
        beside(10000, 0, 9995, 1);
        beside(10000, 0, 9996, -1);
        beside(10000, 10000, 10000, 1);
        farthest();
    }

    private static void farthest() {
        CaptionLines c = new CaptionLines();
        DUE.answers(0, "a corner", () -> c.zone(-10000, -10000, 10000));
        DUE.answers(1, "the corner across", () -> c.zone(10000, 10000, 10000));
        DUE.answers(2, "a touch of both", () -> c.zone(-10000, 10000, 10000));
        DUE.answers(3, "and again", () -> c.zone(10000, -10000, 10000));
        DUE.answers(-1, "the middle is left, but not so much", () -> c.zone(0, 0, 4143));
        DUE.answers(4, "the middle", () -> c.zone(0, 0, 4142));
        CaptionLines d = new CaptionLines();
        d.zone(-10000, 0, 10000);
        DUE.answers(-1, "as large, a step nearer than a touch", () -> d.zone(9999, 0, 10000));
        DUE.answers(1, "as large, a touch", () -> d.zone(10000, 0, 10000));
    }

    private static void lowestOne() {
        DUE.sentence(ZONE, "-1 minus the lowest one");
        CaptionLines c = new CaptionLines();
        for (int n = 0; n < 15; n++) {
            c.zone(n * 10, 0, 5);
        }
        for (int n = 0; n < 15; n++) {
            int of = n;
            DUE.answers(-1 - of, "in zone " + of, () -> c.zone(of * 10, 0, 1));
            DUE.answers(-1 - of, "over all from zone " + of, () -> c.zone(of * 10 + 5001, 0, 5001 + 4));
        }
        DUE.answers(-1, "over all", () -> c.zone(70, 0, 10000));
        DUE.answers(-2, "a touch of the first and more of the second", () -> c.zone(11, 0, 6));
        DUE.answers(-1, "more of the first and a touch of the second", () -> c.zone(-1, 0, 6));
        DUE.answers(15, "the sixteenth, which touches the last", () -> c.zone(150, 0, 5));
    }

    private static void noNewOne() {
        DUE.sentence(ZONE, "(then there is no new one)");
        CaptionLines c = new CaptionLines();
        c.zone(0, 0, 5);
        c.zone(20, 0, 5);
        DUE.answers(-1, "over both", () -> c.zone(10, 0, 6));
        DUE.answers(2, "zones", () -> c.count(3));
        DUE.answers(-1, "nothing between them", () -> c.heard(10, 0));
        DUE.answers(2, "a touch of both", () -> c.zone(10, 0, 5));
        DUE.keeps(-1, "zone(0, 0, 5), a zone once more", x -> x.zone(0, 0, 5));
        DUE.keeps(-2, "zone(9, 1, 1), inside", x -> x.zone(9, 1, 1));
        DUE.keeps(-1, "zone(0, -9, 5), by one", x -> x.zone(0, -9, 5));
        DUE.keeps(-1, "zone(5, 0, 10000), around all", x -> x.zone(5, 0, 10000));
    }

    private static void sixteen() {
        DUE.sentence(ZONE, "IllegalStateException: there are 16.");
        CaptionLines c = new CaptionLines();
        for (int n = 0; n < 15; n++) {
            c.zone(n * 10, 0, 5);
        }
        DUE.answers(15, "the sixteenth", () -> c.zone(150, 0, 5));
        DUE.answers(Due.STATE, "a seventeenth", () -> c.zone(160, 0, 5));
        DUE.answers(16, "zones", () -> c.count(3));
        DUE.answers(15, "the last one", () -> c.heard(151, 0));
        DUE.answers(-1, "no zone more", () -> c.heard(161, 0));
        Consumer<CaptionLines> fill = x -> {
            for (int n = 2; n < 16; n++) {
                x.zone(n * 10, 0, 5);
            }
        };
        DUE.keepsAfter(fill, Due.STATE, "zone, full", x -> x.zone(0, 1000, 1));
        DUE.keepsAfter(fill, Due.STATE, "one that overlaps", x -> x.zone(0, 0, 1));
        for (int place : NO_PLACES) {
            DUE.keepsAfter(fill, Due.STATE, "zone(" + place + ", 0, 1), full", x -> x.zone(place, 0, 1));
            DUE.keepsAfter(fill, Due.STATE, "zone(0, " + place + ", 1), full", x -> x.zone(0, place, 1));
        }
        for (int radius : NO_RADII) {
            DUE.keepsAfter(fill, Due.STATE, "zone(500, 500, " + radius + "), full", x -> x.zone(500, 500, radius));
        }
    }

    private static void noMiddleOrRadius() {
        DUE.sentence(ZONE, "IllegalArgumentException: middle or radius.");
        for (int place : new int[] {-10000, 10000}) {
            DUE.answers(0, "zone(" + place + ", 0, 1)", () -> new CaptionLines().zone(place, 0, 1));
            DUE.answers(0, "zone(0, " + place + ", 1)", () -> new CaptionLines().zone(0, place, 1));
            DUE.answers(0, "zone(x, x, 1) of " + place, () -> new CaptionLines().zone(place, place, 1));
        }
        for (int radius : new int[] {1, 10000}) {
            DUE.answers(0, "zone(0, 0, " + radius + ")", () -> new CaptionLines().zone(0, 0, radius));
        }
        for (int place : NO_PLACES) {
            DUE.keeps(Due.ARGUMENT, "zone(" + place + ", 0, 1)", x -> x.zone(place, 0, 1));
            DUE.keeps(Due.ARGUMENT, "zone(0, " + place + ", 1)", x -> x.zone(0, place, 1));
            DUE.keeps(Due.ARGUMENT, "zone(" + place + ", 0, 10000), around all", x -> x.zone(place, 0, 10000));
        }
        for (int radius : NO_RADII) {
            DUE.keeps(Due.ARGUMENT, "zone(500, 500, " + radius + ")", x -> x.zone(500, 500, radius));
            DUE.keeps(Due.ARGUMENT, "zone(0, 0, " + radius + ")", x -> x.zone(0, 0, radius));
        }
    }

    private static void inAZone() {
        DUE.sentence(HEARD, "The zone in which a point is");
        CaptionLines c = new CaptionLines();
        c.zone(10, 0, 5);
        c.zone(0, 0, 5);
        for (int x = -6; x <= 16; x++) {
            for (int y = -6; y <= 6; y++) {
                int px = x;
                int py = y;
                int want = Math.hypot(x - 10, y) <= 5 ? 0 : Math.hypot(x, y) <= 5 ? 1 : -1;
                DUE.answers(want, "heard(" + x + ", " + y + ")", () -> c.heard(px, py));
            }
        }
        CaptionLines corners = new CaptionLines();
        corners.zone(-10000, -10000, 10000);
        corners.zone(10000, 10000, 10000);
        DUE.answers(0, "heard in a corner", () -> corners.heard(-10000, -10000));
        DUE.answers(1, "heard in the corner across", () -> corners.heard(10000, 10000));
        DUE.keeps(1, "heard(9, 1)", x -> x.heard(9, 1));
    }

    private static void onItsRing() {
        DUE.sentence(HEARD, "(on its ring, too");
        CaptionLines c = new CaptionLines();
        c.zone(0, 0, 5);
        DUE.answers(0, "to the right", () -> c.heard(5, 0));
        DUE.answers(-1, "a step outside", () -> c.heard(6, 0));
        DUE.answers(0, "to the left", () -> c.heard(-5, 0));
        DUE.answers(-1, "a step outside it", () -> c.heard(-6, 0));
        DUE.answers(0, "above", () -> c.heard(0, 5));
        DUE.answers(0, "below", () -> c.heard(0, -5));
        DUE.answers(0, "slanting", () -> c.heard(-3, 4));
        DUE.answers(-1, "slanting, just outside", () -> c.heard(4, 4));
        DUE.answers(-1, "slanting, a step outside", () -> c.heard(-3, 5));
        CaptionLines largest = new CaptionLines();
        largest.zone(-10000, 0, 10000);
        DUE.answers(0, "the largest ring", () -> largest.heard(0, 0));
        DUE.answers(-1, "a step outside it", () -> largest.heard(1, 0));
        DUE.answers(-1, "as far as can be", () -> largest.heard(10000, 10000));
        CaptionLines smallest = new CaptionLines();
        smallest.zone(10000, 10000, 1);
        DUE.answers(0, "the smallest ring", () -> smallest.heard(9999, 10000));
        DUE.answers(-1, "outside it", () -> smallest.heard(9999, 9999));
    }

    private static void lowestOfTwo() {
        DUE.sentence(HEARD, "the lowest of two)");
        CaptionLines c = new CaptionLines();
        c.zone(10, 0, 5);
        c.zone(0, 0, 5);
        c.zone(20, 0, 5);
        c.zone(-10, 0, 5);
        DUE.answers(0, "where 0 and 1 touch", () -> c.heard(5, 0));
        DUE.answers(0, "where 0 and 2 touch", () -> c.heard(15, 0));
        DUE.answers(1, "where 1 and 3 touch", () -> c.heard(-5, 0));
        DUE.keeps(0, "heard(5, 0)", x -> x.heard(5, 0));
    }

    private static void inNone() {
        DUE.sentence(HEARD, "NONE");
        DUE.answers(-1, "without zones", () -> new CaptionLines().heard(0, 0));
        DUE.keeps(-1, "heard(5, 1), between two", x -> x.heard(5, 1));
        DUE.keeps(-1, "heard(-6, 0), just outside", x -> x.heard(-6, 0));
        DUE.keeps(-1, "heard(-10000, 10000), far away", x -> x.heard(-10000, 10000));
    }

    private static void noPoint() {
        DUE.sentence(HEARD, "IllegalArgumentException: x or y.");
        for (int place : new int[] {-10000, 10000}) {
            DUE.answers(-1, "heard(" + place + ", 0)", () -> new CaptionLines().heard(place, 0));
            DUE.answers(-1, "heard(0, " + place + ")", () -> new CaptionLines().heard(0, place));
        }
        for (int place : NO_PLACES) {
            DUE.answers(Due.ARGUMENT, "heard(" + place + ", 0) without zones", () -> new CaptionLines().heard(place, 0));
            DUE.answers(Due.ARGUMENT, "heard(0, " + place + ") without zones", () -> new CaptionLines().heard(0, place));
            DUE.keeps(Due.ARGUMENT, "heard(" + place + ", 0)", x -> x.heard(place, 0));
            DUE.keeps(Due.ARGUMENT, "heard(0, " + place + ")", x -> x.heard(0, place));
            DUE.keeps(Due.ARGUMENT, "heard(x, x) of " + place, x -> x.heard(place, place));
        }
        CaptionLines edge = new CaptionLines();
        edge.zone(10000, 0, 10000);
        DUE.answers(0, "in a zone that goes beyond the edge", () -> edge.heard(10000, 0));
        DUE.answers(Due.ARGUMENT, "in it, but beyond the edge", () -> edge.heard(10001, 0));
    }
}
