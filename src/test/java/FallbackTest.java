/** Promises 5 and 6: falls, shown. */
public final class FallbackTest {
    private static final Due DUE = new Due();

    public static void main(String[] args) {
        chains();
        rings();
        latestIsShown();
        refusals();
        everyFallback();
        DUE.end();
    }

    private static void chains() {
        CaptionLines c = new CaptionLines();
        Due.text(c, 5, 4, "end");
        DUE.answers(4, "shown where it is", () -> c.shown(5, 4));
        DUE.answers(-1, "shown nowhere else", () -> c.shown(5, 0));
        DUE.answers(true, "falls(0, 1)", () -> c.falls(0, 1));
        DUE.answers(true, "falls(1, 2)", () -> c.falls(1, 2));
        DUE.answers(true, "falls(2, 3)", () -> c.falls(2, 3));
        DUE.answers(-1, "a chain that ends without it", () -> c.shown(5, 0));
        DUE.answers(true, "falls(3, 4)", () -> c.falls(3, 4));
        for (int language = 0; language < 5; language++) {
            int of = language;
            DUE.answers(4, "shown(5, " + of + ") by the longest chain", () -> c.shown(5, of));
            DUE.answers(-1, "another caption", () -> c.shown(4, of));
        }
        Due.text(c, 5, 2, "middle");
        DUE.answers(2, "the first that has one", () -> c.shown(5, 0));
        DUE.answers(2, "in itself", () -> c.shown(5, 2));
        DUE.answers(4, "behind it", () -> c.shown(5, 3));
        DUE.answers(true, "falls(0, NONE)", () -> c.falls(0, CaptionLines.NONE));
        DUE.answers(-1, "no fallback any more", () -> c.shown(5, 0));
        DUE.answers(2, "others keep theirs", () -> c.shown(5, 1));
        DUE.answers(true, "falls(0, NONE) again", () -> c.falls(0, CaptionLines.NONE));
        DUE.answers(true, "falls(0, 3)", () -> c.falls(0, 3));
        DUE.answers(4, "by the new one", () -> c.shown(5, 0));
        DUE.answers(true, "falls(0, 3) again", () -> c.falls(0, 3));
    }

    private static void rings() {
        CaptionLines c = new CaptionLines();
        for (int language = 0; language < 5; language++) {
            int of = language;
            DUE.answers(false, "falls(" + of + ", " + of + ")", () -> c.falls(of, of));
        }
        c.falls(0, 1);
        DUE.answers(false, "a ring of two", () -> c.falls(1, 0));
        c.falls(1, 2);
        DUE.answers(false, "a ring of three", () -> c.falls(2, 0));
        c.falls(2, 3);
        c.falls(3, 4);
        DUE.answers(false, "a ring of five", () -> c.falls(4, 0));
        DUE.answers(false, "a ring of four", () -> c.falls(4, 1));
        DUE.answers(false, "a ring at the end", () -> c.falls(4, 3));
        DUE.answers(true, "a shorter chain", () -> c.falls(0, 3));
        DUE.answers(true, "what is no ring any more", () -> c.falls(1, 0));
        Due.text(c, 0, 4, "x");
        DUE.answers(4, "shown by it", () -> c.shown(0, 1));
        DUE.answersAndKeeps(x -> { }, false, "falls(1, 3), a ring of three", x -> x.falls(1, 3));
        DUE.answersAndKeeps(x -> { }, false, "falls(3, 3)", x -> x.falls(3, 3));
        DUE.answersAndKeeps(x -> { }, true, "falls(2, 1), as it is", x -> x.falls(2, 1));
    }

    private static void latestIsShown() {
        CaptionLines c = new CaptionLines();
        c.falls(1, 0);
        Due.text(c, 0, 0, "one");
        Due.text(c, 0, 0, "longer");
        DUE.answers(6, "the latest as cells", () -> c.fingers(0, 0));
        DUE.answers(6, "the fallback's latest", () -> c.fingers(0, 1));
        DUE.answers(65, "the latest's level", () -> c.level(0, 1));
        DUE.answers(1, "the latest in lines", () -> c.lines(0, 1, 6));
        DUE.answers(-1, "not an earlier one that would do", () -> c.lines(0, 1, 5));
    }

    private static void refusals() {
        for (int language : new int[] {-1, 5, 6, Integer.MIN_VALUE, Integer.MAX_VALUE}) {
            DUE.refuses(IndexOutOfBoundsException.class, "falls(" + language + ", 0)", x -> x.falls(language, 0) ? 1 : 0);
            DUE.refuses(IndexOutOfBoundsException.class, "falls(" + language + ", -1)", x -> x.falls(language, -1) ? 1 : 0);
            DUE.refuses(IndexOutOfBoundsException.class, "falls(x, x) of " + language, x -> x.falls(language, language) ? 1 : 0);
            DUE.refuses(IndexOutOfBoundsException.class, "shown(0, " + language + ")", x -> x.shown(0, language));
        }
        for (int to : new int[] {-2, 5, 6, Integer.MIN_VALUE, Integer.MAX_VALUE}) {
            DUE.refuses(IndexOutOfBoundsException.class, "falls(0, " + to + ")", x -> x.falls(0, to) ? 1 : 0);
        }
        for (int caption : new int[] {-1, 10, 11, Integer.MIN_VALUE, Integer.MAX_VALUE}) {
            DUE.refuses(IndexOutOfBoundsException.class, "shown(" + caption + ", 0)", x -> x.shown(caption, 0));
        }
        DUE.answersAndKeeps(x -> { }, 1, "shown(0, 3)", x -> x.shown(0, 3));
    }

    /** Each pair of languages alone. */
    private static void everyFallback() {
        for (int language = 0; language < 5; language++) {
            for (int to = 0; to < 5; to++) {
                CaptionLines c = new CaptionLines();
                int from = language;
                int end = to;
                Due.text(c, 9, to, "x");
                DUE.answers(from != end, "falls(" + from + ", " + end + ")", () -> c.falls(from, end));
                DUE.answers(end, "shown(9, " + from + ")", () -> c.shown(9, from));
            }
        }
    }
}
