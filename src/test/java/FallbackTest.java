/** Promises 5 and 6: falls, shown. */
public final class FallbackTest {
    private static final Due DUE = new Due();
    private static final String FALLS = "Promise 5: falls";
    private static final String SHOWN = "Promise 6: shown";

    public static void main(String[] args) {
        toAnother();
        toNone();
        rings();
        noSuchLanguage();
        languageShown();
        shownNowhere();
        noCaptionOrLanguage();
        DUE.end();
    }

    private static void toAnother() {
        DUE.sentence(FALLS, "A language falls back to another one");
        for (int language = 0; language < 5; language++) {
            for (int to = 0; to < 5; to++) {
                CaptionLines c = new CaptionLines();
                int from = language;
                int end = to;
                Due.text(c, 9, to, "x");
                DUE.answers(from != end, "falls(" + from + ", " + end + ")", () -> c.falls(from, end));
                DUE.answers(end, "shown(9, " + from + ")", () -> c.shown(9, from));
            }
        }
        CaptionLines c = new CaptionLines();
        Due.text(c, 0, 3, "x");
        Due.text(c, 0, 4, "x");
        DUE.answers(true, "falls(0, 3)", () -> c.falls(0, 3));
        DUE.answers(true, "falls(0, 4) in its place", () -> c.falls(0, 4));
        DUE.answers(4, "shown by the new one", () -> c.shown(0, 0));
        DUE.answers(true, "two may fall back to the same", () -> c.falls(1, 4));
        DUE.answers(4, "shown by it, too", () -> c.shown(0, 1));
        DUE.keeps(true, "falls(2, 1), as it is", x -> x.falls(2, 1));
    }

    private static void toNone() {
        DUE.sentence(FALLS, "(NONE: to none)");
        CaptionLines c = chainOfFive();
        Due.text(c, 5, 4, "x");
        DUE.answers(true, "falls(0, NONE)", () -> c.falls(0, CaptionLines.NONE));
        DUE.answers(-1, "no fallback any more", () -> c.shown(5, 0));
        DUE.answers(4, "others keep theirs", () -> c.shown(5, 1));
        DUE.answers(true, "falls(0, NONE) again", () -> c.falls(0, -1));
        DUE.answers(true, "falls(4, NONE), which had none", () -> c.falls(4, -1));
        DUE.answers(true, "falls(4, 0), no ring any more", () -> c.falls(4, 0));
        DUE.keeps(true, "falls(0, NONE), as it is", x -> x.falls(0, -1));
        DUE.keeps(true, "falls(4, NONE), as it is", x -> x.falls(4, -1));
    }

    private static CaptionLines chainOfFive() {
        CaptionLines c = new CaptionLines();
        for (int language = 0; language < 4; language++) {
            c.falls(language, language + 1);
        }
        return c;
    }

    private static void rings() {
        DUE.sentence(FALLS, "whether that can be (no, if there would be a ring)");
        for (int language = 0; language < 5; language++) {
            int of = language;
            DUE.answers(false, "falls(" + of + ", " + of + ")", () -> new CaptionLines().falls(of, of));
        }
        CaptionLines c = new CaptionLines();
        for (int language = 0; language < 4; language++) {
            int of = language;
            DUE.answers(true, "a chain of " + (of + 2), () -> c.falls(of, of + 1));
            for (int to = 0; to <= of; to++) {
                int back = to;
                DUE.answers(false, "a ring of " + (of + 2 - back), () -> c.falls(of + 1, back));
            }
        }
        Due.text(c, 0, 4, "x");
        DUE.answers(4, "shown at the end of the chain", () -> c.shown(0, 0));
        DUE.answers(true, "a shorter chain", () -> c.falls(0, 3));
        DUE.answers(true, "what is no ring any more", () -> c.falls(1, 0));
        DUE.answers(4, "shown by it", () -> c.shown(0, 1));
        DUE.keeps(false, "falls(1, 3), a ring of three", x -> x.falls(1, 3));
        DUE.keeps(false, "falls(1, 2), a ring of two", x -> x.falls(1, 2));
        DUE.keeps(false, "falls(3, 3), which keeps its own", x -> x.falls(3, 3));
        DUE.keepsAfter(x -> x.falls(1, 0), false, "falls(1, 3), which keeps its own", x -> x.falls(1, 3));
        DUE.keepsAfter(x -> longest(x), false, "falls(4, 3), a ring of five", x -> x.falls(4, 3));
    }

    /** 3 to 2 to 1 to 0 to 4. */
    private static void longest(CaptionLines c) {
        c.falls(1, 0);
        c.falls(0, 4);
    }

    private static void noSuchLanguage() {
        DUE.sentence(FALLS, "IndexOutOfBoundsException");
        for (int language : new int[] {-2, -1, 5, Integer.MIN_VALUE, Integer.MAX_VALUE}) {
            DUE.keeps(Due.INDEX, "falls(" + language + ", 0)", x -> x.falls(language, 0));
            DUE.keeps(Due.INDEX, "falls(" + language + ", 4)", x -> x.falls(language, 4));
            DUE.keeps(Due.INDEX, "falls(" + language + ", NONE)", x -> x.falls(language, -1));
            DUE.keeps(Due.INDEX, "falls(x, x) of " + language, x -> x.falls(language, language));
        }
        for (int to : new int[] {-2, 5, Integer.MIN_VALUE, Integer.MAX_VALUE}) {
            DUE.keeps(Due.INDEX, "falls(0, " + to + ")", x -> x.falls(0, to));
            DUE.keeps(Due.INDEX, "falls(3, " + to + ")", x -> x.falls(3, to));
            DUE.keeps(Due.INDEX, "falls(4, " + to + ")", x -> x.falls(4, to));
        }
    }

    private static void languageShown() {
        DUE.sentence(SHOWN, "The language in which a caption is shown");
        CaptionLines c = chainOfFive();
        Due.text(c, 5, 4, "end");
        for (int language = 0; language < 5; language++) {
            int of = language;
            DUE.answers(4, "shown(5, " + of + ") at the end", () -> c.shown(5, of));
        }
        Due.text(c, 5, 2, "middle");
        for (int language = 0; language < 5; language++) {
            int of = language;
            DUE.answers(of <= 2 ? 2 : 4, "shown(5, " + of + ") from the middle", () -> c.shown(5, of));
        }
        Due.text(c, 5, 0, "begin");
        DUE.answers(0, "in itself, not in its fallback", () -> c.shown(5, 0));
        DUE.keeps(1, "shown(0, 3)", x -> x.shown(0, 3));
    }

    private static void shownNowhere() {
        DUE.sentence(SHOWN, "NONE");
        CaptionLines c = chainOfFive();
        DUE.answers(-1, "without any version", () -> c.shown(5, 0));
        Due.text(c, 5, 2, "x");
        DUE.answers(2, "with one behind it", () -> c.shown(5, 1));
        DUE.answers(-1, "with one ahead of it alone", () -> c.shown(5, 3));
        DUE.answers(-1, "at the chain's end", () -> c.shown(5, 4));
        DUE.answers(-1, "another caption", () -> c.shown(4, 2));
        DUE.answers(-1, "another caption still", () -> c.shown(6, 0));
        DUE.keeps(-1, "shown(0, 4)", x -> x.shown(0, 4));
    }

    private static void noCaptionOrLanguage() {
        DUE.sentence(SHOWN, "IndexOutOfBoundsException");
        DUE.takesCaptionAndLanguage("shown", CaptionLines::shown);
    }
}
