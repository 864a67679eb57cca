/** Promises 8 and 9: lines, line. */
public final class LinesTest {
    private static final Due DUE = new Due();

    public static void main(String[] args) {
        ordinary();
        widths();
        ties();
        latestStays();
        mostWords();
        allWays();
        refusals();
        DUE.end();
    }

    private static void set(String text, int width, String want) {
        CaptionLines c = new CaptionLines();
        Due.text(c, 2, 3, text);
        DUE.answers(want, "\"" + text + "\" in " + width, () -> {
            int lines = c.lines(2, 3, width);
            return lines == -1 ? "none" : Due.lines(c, lines);
        });
    }

    private static void ordinary() {
        set("aaa bb cc ddddd.", 6, "0+3 4+5 10+6 =10");
        set("aaa bb cc ddddd.", 60, "0+16 =0");
        set("aaa bb cc ddddd.", 16, "0+16 =0");
        set("aaa bb cc ddddd.", 15, "0+9 10+6 =36");
        set("aaa bb cc ddddd.", 5, "none");
        set("aaa. bb", 4, "0+4 5+2 =0");
        set("aaa. bb", 3, "none");
        set("a", 1, "0+1 =0");
        set("a", 60, "0+1 =0");
        set("ab", 1, "none");
    }

    private static void widths() {
        set("x".repeat(60), 60, "0+60 =0");
        set("x".repeat(60), 59, "none");
        set("x".repeat(61), 60, "none");
        set("a " + "x".repeat(60), 60, "0+1 2+60 =3481");
        set("x".repeat(60) + " a", 60, "0+60 61+1 =0");
        set("a b c", 1, "0+1 2+1 4+1 =0");
        set("a b c", 2, "0+1 2+1 4+1 =2");
        set("a bb", 2, "0+1 2+2 =1");
        set("bb a", 2, "0+2 3+1 =0");
        set("a b.", 1, "none");
    }

    /** In the first three, another way has the same sum and more words in the first line that differs. */
    private static void ties() {
        set("a b c dddd", 4, "0+1 2+3 6+4 =10");
        set("dddd a b c dddd", 4, "0+4 5+1 7+3 11+4 =10");
        set("aa b cc ddddd", 5, "0+2 3+4 8+5 =10");
        set("a b a b", 4, "0+3 4+3 =1");
        set("aa b cc dd", 5, "0+4 5+5 =1");
        set("aaa b aaa b aaa", 6, "0+5 6+5 12+3 =2");
        set("aa b aa b aa", 5, "0+4 5+4 10+2 =2");
    }

    private static void latestStays() {
        CaptionLines c = new CaptionLines();
        Due.text(c, 0, 0, "aaa bb cc ddddd.");
        DUE.answers(3, "set", () -> c.lines(0, 0, 6));
        DUE.answers(-1, "too narrow", () -> c.lines(0, 0, 4));
        DUE.answers("0+3 4+5 10+6 =10", "the latest that could be set", () -> Due.lines(c, 3));
        DUE.answers(-1, "not shown", () -> c.lines(1, 0, 6));
        DUE.answers("0+3 4+5 10+6 =10", "the latest that could be set", () -> Due.lines(c, 3));
        Due.text(c, 0, 0, "new");
        DUE.answers("0+3 4+5 10+6 =10", "behind a new version", () -> Due.lines(c, 3));
        DUE.answers(1, "the new version", () -> c.lines(0, 0, 3));
        DUE.answers("0+3 =0", "fewer lines", () -> Due.lines(c, 1));
        DUE.answers("throws.IndexOutOfBoundsException", "a line of those ahead", () -> c.line(1, 0));
        DUE.answersAndKeeps(x -> { }, -1, "lines(0, 0, 3), too narrow", x -> x.lines(0, 0, 3));
        DUE.answersAndKeeps(x -> { }, -1, "lines(1, 0, 60), not shown", x -> x.lines(1, 0, 60));
        DUE.answersAndKeeps(x -> { }, 2, "lines(0, 3, 6), as it is", x -> x.lines(0, 3, 6));
        DUE.answersAndKeeps(x -> { }, 5, "line(1, 0)", x -> x.line(1, 0));
        DUE.answersAndKeeps(x -> { }, 4, "line(-1, 1)", x -> x.line(-1, 1));
    }

    private static void mostWords() {
        CaptionLines c = new CaptionLines();
        Due.text(c, 0, 0, "a ".repeat(39) + "b.");
        DUE.answers(40, "40 words, each in its line", () -> c.lines(0, 0, 2));
        DUE.answers(39, "their sum", () -> c.line(-1, 0));
        DUE.answers(78, "the last line's begin", () -> c.line(39, 0));
        DUE.answers(2, "the last line's signs", () -> c.line(39, 1));
        DUE.answers("throws.IndexOutOfBoundsException", "no line more", () -> c.line(40, 0));
        DUE.answers(20, "two in a line", () -> c.lines(0, 0, 4));
        DUE.answers("throws.IndexOutOfBoundsException", "no line more", () -> c.line(20, 0));
        DUE.answers(2, "in 60", () -> c.lines(0, 0, 60));
        DUE.answers(59, "the first is as full as it can be", () -> c.line(0, 1));
    }

    /** Against all ways to cut the words into lines, for texts that have many of the same length. */
    private static void allWays() {
        int seed = 1;
        for (int n = 0; n < 400; n++) {
            StringBuilder text = new StringBuilder();
            int words = 1 + n % 10;
            for (int word = 0; word < words; word++) {
                seed = seed * 1103515245 + 12345;
                text.append(word == 0 ? "" : " ").append("x".repeat(1 + (seed >>> 16) % 4));
                text.append((seed >>> 24) % 3 == 0 ? "." : "");
            }
            seed = seed * 1103515245 + 12345;
            int width = 3 + (seed >>> 16) % 12;
            set(text.toString(), width, bestOfAll(text.toString(), width));
        }
    }

    private static String bestOfAll(String text, int width) {
        String[] words = text.split(" ");
        String best = "none";
        int least = Integer.MAX_VALUE;
        // A bit more significant cuts further ahead: of two ways with the same sum the greater number has
        // its first cut that differs further ahead, and so fewer words in that line.
        for (int cuts = (1 << words.length - 1) - 1; cuts >= 0; cuts--) {
            StringBuilder all = new StringBuilder();
            int sum = 0;
            int begin = 0;
            int end = -1;
            boolean fits = true;
            for (int word = 0; word < words.length; word++) {
                end += 1 + words[word].length();
                boolean last = word == words.length - 1;
                if (last || (cuts >> words.length - 2 - word & 1) == 1) {
                    int signs = end - begin;
                    fits &= signs <= width;
                    sum += last ? 0 : (width - signs) * (width - signs);
                    all.append(begin).append('+').append(signs).append(' ');
                    begin = end + 1;
                }
            }
            if (fits && sum < least) {
                least = sum;
                best = all.append('=').append(sum).toString();
            }
        }
        return best;
    }

    private static void refusals() {
        for (int bad : new int[] {-1, 10, Integer.MIN_VALUE, Integer.MAX_VALUE}) {
            DUE.refuses(IndexOutOfBoundsException.class, "lines(" + bad + ", 0, 9)", x -> x.lines(bad, 0, 9));
            DUE.refuses(IndexOutOfBoundsException.class, "lines(0, " + bad + ", 9)", x -> x.lines(0, bad, 9));
            DUE.refuses(IndexOutOfBoundsException.class, "lines(" + bad + ", 0, 0)", x -> x.lines(bad, 0, 0));
        }
        DUE.refuses(IndexOutOfBoundsException.class, "lines(0, 5, 61)", x -> x.lines(0, 5, 61));
        for (int width : new int[] {0, -1, 61, Integer.MIN_VALUE, Integer.MAX_VALUE}) {
            DUE.refuses(IllegalArgumentException.class, "lines(0, 0, " + width + ")", x -> x.lines(0, 0, width));
            DUE.refuses(IllegalArgumentException.class, "lines(1, 0, " + width + ")", x -> x.lines(1, 0, width));
        }
        for (int k : new int[] {-2, 2, 40, Integer.MIN_VALUE, Integer.MAX_VALUE}) {
            DUE.refuses(IndexOutOfBoundsException.class, "line(" + k + ", 0)", x -> x.line(k, 0));
            DUE.refuses(IndexOutOfBoundsException.class, "line(" + k + ", 1)", x -> x.line(k, 1));
        }
        for (int what : new int[] {-1, 2, Integer.MIN_VALUE, Integer.MAX_VALUE}) {
            DUE.refuses(IndexOutOfBoundsException.class, "line(0, " + what + ")", x -> x.line(0, what));
            DUE.refuses(IndexOutOfBoundsException.class, "line(-1, " + what + ")", x -> x.line(-1, what));
        }
    }
}
