import java.util.function.Consumer;

/** Promises 15 and 16: zone, heard. */
public final class ZonesTest {
    private static final Due DUE = new Due();
    private static final int[] NO_PLACES = {-10001, 10001, 65536, Integer.MIN_VALUE, Integer.MAX_VALUE};

    public static void main(String[] args) {
        touches();
        overlaps();
        farthest();
        hearing();
        sixteen();
        refusals();
        DUE.end();
    }

    private static void touches() {
        CaptionLines c = new CaptionLines();
        DUE.answers(0, "zone(0, 0, 5)", () -> c.zone(0, 0, 5));
        DUE.answers(1, "a touch at the side", () -> c.zone(10, 0, 5));
        DUE.answers(2, "a touch above", () -> c.zone(0, -11, 6));
        DUE.answers(3, "a slanting touch, 6, 8, 10", () -> c.zone(-6, 8, 5));
        DUE.answers(4, "apart", () -> c.zone(100, 100, 1));
        DUE.answers(5, "zones", () -> c.count(3));
    }

    private static void overlaps() {
        CaptionLines c = new CaptionLines();
        c.zone(0, 0, 5);
        c.zone(20, 0, 5);
        DUE.answers(-1, "the same", () -> c.zone(0, 0, 5));
        DUE.answers(-1, "inside", () -> c.zone(1, 1, 1));
        DUE.answers(-1, "inside, at the ring", () -> c.zone(3, 0, 2));
        DUE.answers(-1, "around", () -> c.zone(0, 1, 10));
        DUE.answers(-1, "by one", () -> c.zone(0, 9, 5));
        DUE.answers(-1, "slanting, by less than one", () -> c.zone(7, 7, 5));
        DUE.answers(-2, "the second", () -> c.zone(20, 3, 1));
        DUE.answers(-1, "both: the lowest", () -> c.zone(10, 0, 6));
        DUE.answers(-2, "a touch of the first and more of the second", () -> c.zone(11, 0, 6));
        DUE.answers(2, "no new one of all these", () -> c.count(3));
        DUE.answers(-1, "nothing between them", () -> c.heard(10, 0));
        DUE.answers(2, "a touch of both", () -> c.zone(10, 0, 5));
        DUE.answersAndKeeps(x -> { }, -2, "zone(9, 1, 1)", x -> x.zone(9, 1, 1));
    }

    private static void farthest() {
        CaptionLines c = new CaptionLines();
        DUE.answers(0, "a corner", () -> c.zone(-10000, -10000, 10000));
        DUE.answers(1, "the corner across", () -> c.zone(10000, 10000, 10000));
        DUE.answers(2, "a touch of both", () -> c.zone(-10000, 10000, 10000));
        DUE.answers(3, "and again", () -> c.zone(10000, -10000, 10000));
        DUE.answers(-1, "the middle is left, but not so much", () -> c.zone(0, 0, 4143));
        DUE.answers(4, "the middle", () -> c.zone(0, 0, 4142));
        DUE.answers(0, "heard in a corner", () -> c.heard(-10000, -10000));
        DUE.answers(1, "heard in the corner across", () -> c.heard(10000, 10000));
        DUE.answers(0, "on two rings", () -> c.heard(-10000, 0));
        DUE.answers(1, "on two other rings", () -> c.heard(0, 10000));
        DUE.answers(4, "in the middle", () -> c.heard(4142, 0));
        DUE.answers(-1, "in none", () -> c.heard(4143, 0));
        CaptionLines d = new CaptionLines();
        d.zone(0, 0, 1);
        DUE.answers(1, "the smallest that touch", () -> d.zone(2, 0, 1));
        DUE.answers(-1, "the largest", () -> d.zone(10000, 0, 10000));
    }

    private static void hearing() {
        CaptionLines c = new CaptionLines();
        c.zone(10, 0, 5);
        c.zone(0, 0, 5);
        DUE.answers(0, "a middle", () -> c.heard(10, 0));
        DUE.answers(1, "another one", () -> c.heard(0, 0));
        DUE.answers(0, "where they touch, the lowest", () -> c.heard(5, 0));
        DUE.answers(1, "on a ring, slanting", () -> c.heard(-3, 4));
        DUE.answers(-1, "just outside", () -> c.heard(-3, 5));
        DUE.answers(-1, "just outside, slanting", () -> c.heard(4, 4));
        DUE.answers(0, "on the ring", () -> c.heard(15, 0));
        DUE.answers(-1, "behind it", () -> c.heard(16, 0));
        DUE.answers(-1, "far away", () -> c.heard(-10000, 10000));
        for (int x = -6; x <= 16; x++) {
            for (int y = -6; y <= 6; y++) {
                int px = x;
                int py = y;
                int want = Math.hypot(x - 10, y) <= 5 ? 0 : Math.hypot(x, y) <= 5 ? 1 : -1;
                DUE.answers(want, "heard(" + x + ", " + y + ")", () -> c.heard(px, py));
            }
        }
    }

    private static void sixteen() {
        CaptionLines c = new CaptionLines();
        for (int n = 0; n < 16; n++) {
            int of = n;
            DUE.answers(of, "zone number " + of, () -> c.zone(of * 10, 0, 5));
        }
        DUE.answers("throws.IllegalStateException", "a zone more", () -> c.zone(0, 1000, 1));
        DUE.answers("throws.IllegalStateException", "one that overlaps", () -> c.zone(0, 0, 1));
        DUE.answers("throws.IllegalStateException", "one with a wrong radius", () -> c.zone(0, 0, 0));
        DUE.answers("throws.IllegalStateException", "one with a wrong middle", () -> c.zone(10001, 0, 1));
        DUE.answers(16, "zones", () -> c.count(3));
        DUE.answers(15, "the last one", () -> c.heard(151, 0));
        DUE.answers(-1, "no zone more", () -> c.heard(0, 1000));
        Consumer<CaptionLines> fill = x -> {
            for (int n = 2; n < 16; n++) {
                x.zone(n * 10, 0, 5);
            }
        };
        DUE.refusesAfter(fill, IllegalStateException.class, "zone, full", x -> x.zone(0, 1000, 1));
    }

    private static void refusals() {
        for (int place : NO_PLACES) {
            DUE.refuses(IllegalArgumentException.class, "zone(" + place + ", 0, 1)", x -> x.zone(place, 0, 1));
            DUE.refuses(IllegalArgumentException.class, "zone(0, " + place + ", 1)", x -> x.zone(0, place, 1));
            DUE.refuses(IllegalArgumentException.class, "heard(" + place + ", 0)", x -> x.heard(place, 0));
            DUE.refuses(IllegalArgumentException.class, "heard(0, " + place + ")", x -> x.heard(0, place));
        }
        for (int radius : new int[] {0, -1, 10001, Integer.MIN_VALUE, Integer.MAX_VALUE}) {
            DUE.refuses(IllegalArgumentException.class, "zone(500, 500, " + radius + ")", x -> x.zone(500, 500, radius));
            DUE.refuses(IllegalArgumentException.class, "zone(0, 0, " + radius + ")", x -> x.zone(0, 0, radius));
        }
        DUE.answersAndKeeps(x -> { }, 1, "heard(9, 1)", x -> x.heard(9, 1));
    }
}
