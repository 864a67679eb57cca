/** Promise 19: count. */
public final class CountTest {
    private static final Due DUE = new Due();
    private static final String COUNT = "Promise 19: count";

    public static void main(String[] args) {
        signs();
        versions();
        contractions();
        zones();
        ways();
        cells();
        noneOfThese();
        DUE.end();
    }

    private static void counts(CaptionLines c, int what, int want, String when) {
        DUE.answers(want, "count(" + what + ") " + when, () -> c.count(what));
    }

    private static void signs() {
        DUE.sentence(COUNT, "0 signs of the pad");
        CaptionLines c = new CaptionLines();
        counts(c, 0, 0, "at first");
        for (int n = 1; n <= 80; n++) {
            c.unit('x');
            counts(c, 0, n, "behind " + n + " signs");
        }
        DUE.answers(Due.STATE, "a sign more", () -> c.unit('x'));
        counts(c, 0, 80, "full");
        c.text(0, 0);
        counts(c, 0, 0, "behind text");
        c.fingers(0, 0);
        counts(c, 0, 0, "behind fingers");
        c.back();
        counts(c, 0, 80, "behind back");
        c.clear();
        counts(c, 0, 0, "behind clear");
        Due.type(c, "abcde");
        counts(c, 0, 5, "ahead of contract");
        c.contract(28);
        counts(c, 0, 0, "behind contract");
        DUE.keeps(3, "count(0)", x -> x.count(0));
    }

    private static void versions() {
        DUE.sentence(COUNT, "1 versions of all");
        CaptionLines c = new CaptionLines();
        counts(c, 1, 0, "at first");
        Due.text(c, 0, 0, "x");
        counts(c, 1, 1, "behind the first");
        c.fingers(0, 0);
        // Two calls for each more: the cells of the first come back as often as they are wanted.
        for (int n = 1; n < 200; n++) {
            c.back();
            c.text(n % 10, n / 10 % 5);
        }
        counts(c, 1, 200, "when there are four of each");
        DUE.answers(Due.STATE, "a version more", () -> c.text(9, 4));
        counts(c, 1, 200, "still");
        CaptionLines wrong = Due.type(new CaptionLines(), "x ");
        wrong.text(0, 0);
        counts(wrong, 1, 0, "behind what is no text");
        DUE.keeps(3, "count(1)", x -> x.count(1));
    }

    private static void contractions() {
        DUE.sentence(COUNT, "2 contractions");
        CaptionLines c = new CaptionLines();
        counts(c, 2, 0, "at first");
        for (int cell = 28; cell <= 63; cell++) {
            Due.contractTwo(c, cell);
            counts(c, 2, cell - 27, "up to cell " + cell);
        }
        DUE.answers(false, "a contraction more", () -> Due.contract(c, "zz", 63));
        counts(c, 2, 36, "still");
        DUE.keeps(2, "count(2)", x -> x.count(2));
    }

    private static void zones() {
        DUE.sentence(COUNT, "3 zones");
        CaptionLines c = new CaptionLines();
        counts(c, 3, 0, "at first");
        for (int n = 0; n < 16; n++) {
            c.zone(n * 10, 0, 5);
            counts(c, 3, n + 1, "behind zone " + n);
            Due.said(() -> c.zone(0, 0, 1));
            counts(c, 3, n + 1, "behind one that can't be");
        }
        DUE.keeps(2, "count(3)", x -> x.count(3));
    }

    private static void ways() {
        DUE.sentence(COUNT, "4 ways");
        CaptionLines c = new CaptionLines();
        counts(c, 4, 0, "at first");
        for (int a = 0; a < 24; a++) {
            for (int b = a + 1; b < 24; b++) {
                c.way(a, b, true);
            }
        }
        counts(c, 4, 276, "when there are all");
        c.way(23, 22, true);
        counts(c, 4, 276, "behind one that is there");
        c.way(23, 22, false);
        counts(c, 4, 275, "behind one less");
        c.way(22, 23, false);
        counts(c, 4, 275, "behind one that is not there");
        DUE.keeps(4, "count(4)", x -> x.count(4));
    }

    private static void cells() {
        DUE.sentence(COUNT, "5 latest cells");
        CaptionLines c = new CaptionLines();
        counts(c, 5, 0, "at first");
        c.fingers(0, 0);
        counts(c, 5, 0, "behind what is not shown");
        Due.text(c, 0, 0, "x".repeat(80));
        counts(c, 5, 0, "behind a text");
        c.fingers(0, 0);
        counts(c, 5, 80, "behind 80 signs");
        Due.text(c, 0, 0, "x");
        counts(c, 5, 80, "behind a text more");
        c.fingers(0, 1);
        counts(c, 5, 80, "behind what is not shown there");
        c.back();
        counts(c, 5, 80, "behind back");
        c.fingers(0, 0);
        counts(c, 5, 1, "behind one sign");
        DUE.keeps(8, "count(5)", x -> x.count(5));
    }

    private static void noneOfThese() {
        DUE.sentence(COUNT, "IndexOutOfBoundsException: none of these.");
        DUE.answers(0, "count(0)", () -> new CaptionLines().count(0));
        DUE.answers(0, "count(5)", () -> new CaptionLines().count(5));
        for (int what : new int[] {-1, 6, 7, Integer.MIN_VALUE, Integer.MAX_VALUE}) {
            DUE.answers(Due.INDEX, "count(" + what + ") of a new object", () -> new CaptionLines().count(what));
            DUE.keeps(Due.INDEX, "count(" + what + ")", x -> x.count(what));
        }
    }
}
