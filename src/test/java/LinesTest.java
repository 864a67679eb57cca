/** Promises 8 and 9: lines, line. */
public final class LinesTest {
    private static final Due DUE = new Due();
    private static final String LINES = "Promise 8: lines";
    private static final String LINE = "Promise 9: line";

    public static void main(String[] args) {
        whatIsShown();
        howMany();
        allWays();
        notShown();
        wordTooLong();
        noCaptionOrLanguage();
        noWidth();
        latestThatCouldBeSet();
        beginAndSigns();
        sumOfSquares();
        noneAtFirst();
        noSuchLine();
        whatIsNeither();
        DUE.end();
    }

    private static void set(String text, int width, String want) {
        CaptionLines c = new CaptionLines();
        Due.text(c, 2, 3, text);
        DUE.answers(want, "\"" + text + "\" in " + width, () -> {
            int lines = c.lines(2, 3, width);
            return lines == -1 ? "none" : Due.lines(c, lines);
        });
    }

    private static void whatIsShown() {
        DUE.sentence(LINES, "Sets what is shown of a caption into lines");
        CaptionLines c = new CaptionLines();
        c.falls(1, 0);
        Due.text(c, 0, 0, "one");
        Due.text(c, 0, 0, "longer");
        DUE.answers(1, "the latest", () -> c.lines(0, 0, 6));
        DUE.answers(6, "its signs", () -> c.line(0, 1));
        DUE.answers(1, "the fallback's latest", () -> c.lines(0, 1, 6));
        DUE.answers(-1, "not an earlier one that would do", () -> c.lines(0, 1, 5));
        Due.text(c, 0, 1, "x y");
        DUE.answers(2, "its own", () -> c.lines(0, 1, 2));
        set("aaa bb cc ddddd.", 6, "0+3 4+5 10+6 =10");
        set("aaa bb cc ddddd.", 15, "0+9 10+6 =36");
        DUE.keeps(2, "lines(0, 3, 6), as it is", x -> x.lines(0, 3, 6));
    }

    private static void lines(String text, int width, int want) {
        CaptionLines c = new CaptionLines();
        Due.text(c, 0, 0, text);
        DUE.answers(want, "lines of \"" + text + "\" in " + width, () -> c.lines(0, 0, width));
    }

    private static void howMany() {
        DUE.sentence(LINES, "how many");
        lines("a", 1, 1);
        lines("a", 60, 1);
        lines("a b c", 1, 3);
        lines("a b c", 4, 2);
        lines("a b c", 5, 1);
        lines("x".repeat(60), 60, 1);
        lines("x".repeat(60) + " a", 60, 2);
        lines("a ".repeat(39) + "b", 1, 40);
        lines("a ".repeat(39) + "b.", 2, 40);
        lines("a ".repeat(39) + "b.", 3, 21);
        lines("a ".repeat(39) + "b.", 4, 20);
        lines("a ".repeat(39) + "b.", 59, 2);
        lines("a ".repeat(39) + "b.", 60, 2);
    }

    /** Against all ways to cut the words into lines, for texts that have many of the same length. */
    private static void allWays() {
        int seed = 1;
        for (int n = 0; n < 400; n++) {
            StringBuilder text = new StringBuilder();
            int words = 1 + n % 10;
            for (int word = 0; word < words; word++) {
                seed = seed * 1103515245 + 12345;
                text.append(word == 0 ? "" : " ").append("x".repeat(1 + (seed >>> 16) % 4));
                text.append((seed >>> 24) % 3 == 0 ? "." : "");
            }
            seed = seed * 1103515245 + 12345;
            int width = 3 + (seed >>> 16) % 12;
            set(text.toString(), width, bestOfAll(text.toString(), width));
        }
    }

    private static String bestOfAll(String text, int width) {
        String[] words = text.split(" ");
        String best = "none";
        int least = Integer.MAX_VALUE;
        // A bit more significant cuts further ahead: of two ways with the same sum the greater number has
        // its first cut that differs further ahead, and so fewer words in that line.
        for (int cuts = (1 << words.length - 1) - 1; cuts >= 0; cuts--) {
            StringBuilder all = new StringBuilder();
            int sum = 0;
            int begin = 0;
            int end = -1;
            boolean fits = true;
            for (int word = 0; word < words.length; word++) {
                end += 1 + words[word].length();
                boolean last = word == words.length - 1;
                if (last || (cuts >> words.length - 2 - word & 1) == 1) {
                    int signs = end - begin;
                    fits &= signs <= width;
                    sum += last ? 0 : (width - signs) * (width - signs);
                    all.append(begin).append('+').append(signs).append(' ');
                    begin = end + 1;
                }
            }
            if (fits && sum < least) {
                least = sum;
                best = all.append('=').append(sum).toString();
            }
        }
        return best;
    }

    private static void notShown() {
        DUE.sentence(LINES, "NONE if it is not shown");
        DUE.answers(-1, "a new object, width 1", () -> new CaptionLines().lines(0, 0, 1));
        DUE.answers(-1, "a new object, width 60", () -> new CaptionLines().lines(9, 4, 60));
        DUE.keeps(-1, "lines(1, 0, 60), no version", x -> x.lines(1, 0, 60));
        DUE.keeps(-1, "lines(0, 4, 60), no fallback", x -> x.lines(0, 4, 60));
        DUE.keeps(-1, "lines(1, 3, 60), fallbacks without a version", x -> x.lines(1, 3, 60));
    }

    private static void wordTooLong() {
        DUE.sentence(LINES, "or has a word longer than the width");
        lines("a", 1, 1);
        lines("ab", 1, -1);
        lines("a.", 1, -1);
        lines("a.", 2, 1);
        lines("aaa bb", 3, 2);
        lines("aaa bb", 2, -1);
        lines("bb aaa", 3, 2);
        lines("bb aaa", 2, -1);
        lines("b aaa b", 2, -1);
        lines("b aaa b", 3, 3);
        lines("aaa. b", 3, -1);
        lines("aaa. b", 4, 2);
        lines("x".repeat(60), 60, 1);
        lines("x".repeat(60), 59, -1);
        lines("x".repeat(61), 60, -1);
        lines("x".repeat(60) + ".", 60, -1);
        lines("x".repeat(80), 60, -1);
        lines("a " + "x".repeat(60), 60, 2);
        lines("a " + "x".repeat(61), 60, -1);
        DUE.keeps(-1, "lines(0, 0, 3), too narrow for \"end.\"", x -> x.lines(0, 0, 3));
        DUE.keeps(-1, "lines(0, 3, 3), too narrow for \"then\"", x -> x.lines(0, 3, 3));
        DUE.keeps(-1, "lines(0, 0, 1)", x -> x.lines(0, 0, 1));
    }

    private static void noCaptionOrLanguage() {
        DUE.sentence(LINES, "IndexOutOfBoundsException");
        DUE.takesCaptionAndLanguage("lines in 9", (x, caption, language) -> x.lines(caption, language, 9));
        for (int width : new int[] {0, 61, -1, Integer.MAX_VALUE}) {
            DUE.keeps(Due.INDEX, "lines(-1, 0, " + width + ")", x -> x.lines(-1, 0, width));
            DUE.keeps(Due.INDEX, "lines(10, 0, " + width + ")", x -> x.lines(10, 0, width));
            DUE.keeps(Due.INDEX, "lines(0, -1, " + width + ")", x -> x.lines(0, -1, width));
            DUE.keeps(Due.INDEX, "lines(0, 5, " + width + ")", x -> x.lines(0, 5, width));
        }
    }

    private static void noWidth() {
        DUE.sentence(LINES, "IllegalArgumentException: width is not 1 .. 60.");
        set("a", 1, "0+1 =0");
        set("a", 60, "0+1 =0");
        for (int width : new int[] {0, 61, -1, 80, Integer.MIN_VALUE, Integer.MAX_VALUE}) {
            DUE.keeps(Due.ARGUMENT, "lines(0, 0, " + width + ")", x -> x.lines(0, 0, width));
            DUE.keeps(Due.ARGUMENT, "lines(1, 0, " + width + "), not shown", x -> x.lines(1, 0, width));
        }
    }

    private static void latestThatCouldBeSet() {
        DUE.sentence(LINE, "Line k of the latest that could be set");
        CaptionLines c = new CaptionLines();
        Due.text(c, 0, 0, "aaa bb cc ddddd.");
        DUE.answers(3, "set", () -> c.lines(0, 0, 6));
        DUE.answers(-1, "too narrow", () -> c.lines(0, 0, 4));
        DUE.answers("0+3 4+5 10+6 =10", "behind too narrow a width", () -> Due.lines(c, 3));
        DUE.answers(-1, "not shown", () -> c.lines(1, 0, 6));
        DUE.answers("0+3 4+5 10+6 =10", "behind what is not shown", () -> Due.lines(c, 3));
        DUE.answers(Due.ARGUMENT, "no width", () -> c.lines(0, 0, 61));
        DUE.answers(Due.INDEX, "no caption", () -> c.lines(10, 0, 6));
        DUE.answers("0+3 4+5 10+6 =10", "behind refused calls", () -> Due.lines(c, 3));
        Due.text(c, 0, 0, "new");
        DUE.answers("0+3 4+5 10+6 =10", "behind a new version", () -> Due.lines(c, 3));
        DUE.answers(1, "the new version", () -> c.lines(0, 0, 3));
        DUE.answers("0+3 =0", "the latest", () -> Due.lines(c, 1));
        DUE.answers(Due.INDEX, "a line of those ahead", () -> c.line(1, 0));
    }

    private static void beginAndSigns() {
        DUE.sentence(LINE, "0 where it begins in the text, 1 its signs");
        set("a", 1, "0+1 =0");
        set("aaa. bb", 4, "0+4 5+2 =0");
        CaptionLines c = new CaptionLines();
        Due.text(c, 0, 0, "a ".repeat(39) + "b.");
        c.lines(0, 0, 2);
        for (int k = 0; k < 40; k++) {
            int of = k;
            DUE.answers(2 * k, "where line " + k + " begins", () -> c.line(of, 0));
            DUE.answers(k == 39 ? 2 : 1, "the signs of line " + k, () -> c.line(of, 1));
        }
        DUE.keeps(0, "line(0, 0)", x -> x.line(0, 0));
        DUE.keeps(4, "line(0, 1)", x -> x.line(0, 1));
        DUE.keeps(5, "line(1, 0)", x -> x.line(1, 0));
        DUE.keeps(3, "line(1, 1)", x -> x.line(1, 1));
    }

    private static void sumOfSquares() {
        DUE.sentence(LINE, "k = -1: the sum of squares");
        set("a", 60, "0+1 =0");
        set("a b", 1, "0+1 2+1 =0");
        set("a bb", 2, "0+1 2+2 =1");
        set("a " + "x".repeat(60), 60, "0+1 2+60 =3481");
        set("a ".repeat(9) + "x".repeat(60), 60, "0+17 18+60 =1849");
        DUE.keeps(4, "line(-1, 0)", x -> x.line(-1, 0));
        DUE.keeps(4, "line(-1, 1)", x -> x.line(-1, 1));
    }

    private static void noneAtFirst() {
        DUE.sentence(LINE, "IndexOutOfBoundsException: there is none (at first)");
        CaptionLines c = new CaptionLines();
        Due.text(c, 0, 0, "aaa");
        DUE.answers(-1, "too narrow", () -> c.lines(0, 0, 2));
        DUE.answers(-1, "not shown", () -> c.lines(0, 1, 3));
        for (int k : new int[] {-2, -1, 0, 1}) {
            DUE.answers(Due.INDEX, "line(" + k + ", 0)", () -> c.line(k, 0));
            DUE.answers(Due.INDEX, "line(" + k + ", 1)", () -> c.line(k, 1));
            DUE.answers(Due.INDEX, "line(" + k + ", 2)", () -> c.line(k, 2));
        }
        DUE.answers(1, "set", () -> c.lines(0, 0, 3));
        DUE.answers("0+3 =0", "then there is one", () -> Due.lines(c, 1));
    }

    private static void noSuchLine() {
        DUE.sentence(LINE, "IndexOutOfBoundsException: there is none");
        for (int k : new int[] {-2, 2, 3, 39, 40, 80, Integer.MIN_VALUE, Integer.MAX_VALUE}) {
            DUE.keeps(Due.INDEX, "line(" + k + ", 0)", x -> x.line(k, 0));
            DUE.keeps(Due.INDEX, "line(" + k + ", 1)", x -> x.line(k, 1));
        }
        CaptionLines c = new CaptionLines();
        Due.text(c, 0, 0, "a ".repeat(39) + "b");
        c.lines(0, 0, 1);
        DUE.answers(78, "line 39 of 40", () -> c.line(39, 0));
        DUE.answers(Due.INDEX, "line 40 of 40", () -> c.line(40, 0));
        DUE.answers(Due.INDEX, "line 40 of 40, its signs", () -> c.line(40, 1));
        c.lines(0, 0, 3);
        DUE.answers(76, "line 19 of 20", () -> c.line(19, 0));
        DUE.answers(Due.INDEX, "line 20 of 20", () -> c.line(20, 0));
    }

    private static void whatIsNeither() {
        DUE.sentence(LINE, "or what is neither");
        for (int what : new int[] {-1, 2, 3, Integer.MIN_VALUE, Integer.MAX_VALUE}) {
            DUE.keeps(Due.INDEX, "line(0, " + what + ")", x -> x.line(0, what));
            DUE.keeps(Due.INDEX, "line(1, " + what + ")", x -> x.line(1, what));
            DUE.keeps(Due.INDEX, "line(2, " + what + ")", x -> x.line(2, what));
            DUE.keeps(Due.INDEX, "line(-1, " + what + ")", x -> x.line(-1, what));
        }
    }
}
