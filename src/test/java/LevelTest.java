/** Promise 10: level. */
public final class LevelTest {
    private static final Due DUE = new Due();
    private static final String LEVEL = "Promise 10: level";

    public static void main(String[] args) {
        whatIsShown();
        lettersByWords();
        wordsBySentences();
        together();
        notShown();
        noCaptionOrLanguage();
        DUE.end();
    }

    private static void level(String text, int want) {
        CaptionLines c = new CaptionLines();
        Due.text(c, 9, 0, text);
        DUE.answers(want, "level of \"" + text + "\"", () -> c.level(9, 0));
    }

    private static void whatIsShown() {
        DUE.sentence(LEVEL, "The level of reading of what is shown");
        CaptionLines c = new CaptionLines();
        c.falls(1, 0);
        Due.text(c, 0, 0, "one");
        DUE.answers(35, "the only version", () -> c.level(0, 0));
        Due.text(c, 0, 0, "longer");
        DUE.answers(65, "the latest", () -> c.level(0, 0));
        DUE.answers(65, "the fallback's latest", () -> c.level(0, 1));
        Due.text(c, 0, 1, "x");
        DUE.answers(15, "its own", () -> c.level(0, 1));
        DUE.keeps(45, "level(0, 3), of a fallback's latest", x -> x.level(0, 3));
    }

    /** One sentence of so many words: 5 for each of them, and what the letters bring. */
    private static void lettersByWords() {
        DUE.sentence(LEVEL, "10 times its letters, divided by its words");
        level("x", 10 + 5);
        level("x.", 10 + 5);
        level("aa b c", 13 + 15);
        level("aa bb c", 16 + 15);
        level("aa bb cc", 20 + 15);
        level("aaa bb cc ddddd.", 30 + 20);
        level("aaa bb cc ddddd", 30 + 20);
        level("x".repeat(79) + ".", 790 + 5);
        level("x".repeat(80), 800 + 5);
        level("a ".repeat(39) + "b.", 10 + 200);
    }

    private static void wordsBySentences() {
        DUE.sentence(LEVEL, "5 times its words, divided by its sentences (rests fall)");
        level("a. b", 10 + 5);
        level("a. b.", 10 + 5);
        level("a b.", 10 + 10);
        level("a b. c", 10 + 7);
        level("a b. c.", 10 + 7);
        level("a. b c. d", 10 + 6);
        level("a. b c. d e", 10 + 8);
        level("a. b. c. d e", 10 + 6);
        level("a. ".repeat(26) + "b.", 10 + 5);
        level("a. ".repeat(26) + "b", 10 + 5);
    }

    /** Each rest falls by itself: 80 by 7 and 35 by 3 are 11 and 11, though more than 23 as they are. */
    private static void together() {
        DUE.sentence(LEVEL, "together");
        level("aa. b c d. e f g", 11 + 11);
        level("aa b. c", 13 + 7);
        level("aaa b. c", 16 + 7);
    }

    private static void notShown() {
        DUE.sentence(LEVEL, "NONE if it is not shown.");
        DUE.answers(-1, "a new object", () -> new CaptionLines().level(0, 0));
        DUE.keeps(-1, "level(1, 0), no version", x -> x.level(1, 0));
        DUE.keeps(-1, "level(0, 4), no fallback", x -> x.level(0, 4));
        DUE.keeps(-1, "level(1, 3), fallbacks without a version", x -> x.level(1, 3));
    }

    private static void noCaptionOrLanguage() {
        DUE.sentence(LEVEL, "IndexOutOfBoundsException");
        DUE.takesCaptionAndLanguage("level", CaptionLines::level);
    }
}
