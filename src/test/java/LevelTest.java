/** Promise 10: level. */
public final class LevelTest {
    private static final Due DUE = new Due();

    public static void main(String[] args) {
        levels();
        refusals();
        DUE.end();
    }

    private static void level(String text, int want) {
        CaptionLines c = new CaptionLines();
        Due.text(c, 9, 0, text);
        DUE.answers(want, "level of \"" + text + "\"", () -> c.level(9, 0));
    }

    private static void levels() {
        level("x", 15);
        level("x.", 15);
        level("aaa bb cc ddddd.", 50);
        level("aaa bb cc ddddd", 50);
        level("a. b", 10 + 5);
        level("a. b.", 10 + 5);
        level("a b. c", 10 + 7);
        level("aa b c", 13 + 15);
        level("aa bb c", 16 + 15);
        level("a. b c. d", 10 + 6);
        level("aa. b c d. e f g", 11 + 11);
        level("x".repeat(80), 805);
        level("x".repeat(79) + ".", 795);
        level("a ".repeat(39) + "b.", 210);
        level("a. ".repeat(26) + "b.", 15);
    }

    private static void refusals() {
        CaptionLines c = new CaptionLines();
        DUE.answers(-1, "not shown", () -> c.level(0, 0));
        for (int bad : new int[] {-1, 10, Integer.MIN_VALUE, Integer.MAX_VALUE}) {
            DUE.refuses(IndexOutOfBoundsException.class, "level(" + bad + ", 0)", x -> x.level(bad, 0));
            DUE.refuses(IndexOutOfBoundsException.class, "level(0, " + bad + ")", x -> x.level(0, bad));
        }
        DUE.refuses(IndexOutOfBoundsException.class, "level(0, 5)", x -> x.level(0, 5));
        DUE.answersAndKeeps(x -> { }, 45, "level(0, 3), of a fallback's latest", x -> x.level(0, 3));
        DUE.answersAndKeeps(x -> { }, -1, "level(1, 0), not shown", x -> x.level(1, 0));
    }
}
