/** Promises 4 and 7: text, sign. */
public final class TextTest {
    private static final Due DUE = new Due();
    private static final int[] NO_CAPTIONS = {-1, 10, 50, Integer.MIN_VALUE, Integer.MAX_VALUE};
    private static final int[] NO_LANGUAGES = {-1, 5, 10, Integer.MIN_VALUE, Integer.MAX_VALUE};

    public static void main(String[] args) {
        texts();
        noTexts();
        everyRowOfFive();
        fullPads();
        versions();
        refusals();
        signRefusals();
        DUE.end();
    }

    private static void texts() {
        String[] texts = {"a", "z", "a.", "ab", "a b", "a. b", "a. b.", "a.  ".trim(), "abc de. f ghi. j.",
            "a b c d e f", "z. z. z.", "x".repeat(80), "x".repeat(79) + "."};
        for (String text : texts) {
            CaptionLines c = new CaptionLines();
            DUE.answers(0, "text \"" + text + "\"", () -> Due.text(c, 3, 2, text));
            DUE.answers(0, "its pad", () -> c.count(0));
            DUE.answers(text.length(), "its length", () -> c.sign(3, 2, 0, -1));
            DUE.answers(text, "its signs", () -> Due.version(c, 3, 2, 0));
            DUE.answers(1, "versions of all", () -> c.count(1));
        }
    }

    private static void noTexts() {
        refused("", 0);
        refused(" ", 0);
        refused(".", 0);
        refused(" a", 0);
        refused(".a", 0);
        refused("a ", 2);
        refused("a  ", 2);
        refused("a  b", 2);
        refused("a .", 2);
        refused("a. ", 3);
        refused("a..", 2);
        refused("a.b", 2);
        refused("a.b ", 2);
        refused("a. .", 3);
        refused("a.  b", 3);
        refused("ab cd. ef.g", 10);
        refused("ab cd. ef ", 10);
    }

    private static void refused(String row, int place) {
        CaptionLines c = Due.type(new CaptionLines(), row);
        DUE.answers(-1 - place, "text \"" + row + "\"", () -> c.text(0, 0));
        DUE.answers(row.length(), "the pad that stays", () -> c.count(0));
        DUE.answers(0, "no version of it", () -> c.count(1));
        DUE.answers(-1, "nothing shown of it", () -> c.shown(0, 0));
        DUE.answers(-1 - place, "text \"" + row + "\" again", () -> c.text(9, 4));
    }

    /** The definition once more, by looking at which rows have a text that begins with them. */
    private static void everyRowOfFive() {
        String signs = "a .";
        for (int length = 1; length <= 5; length++) {
            for (int number = 0; number < Math.pow(3, length); number++) {
                StringBuilder row = new StringBuilder();
                for (int i = 0, rest = number; i < length; i++, rest /= 3) {
                    row.append(signs.charAt(rest % 3));
                }
                String all = row.toString();
                CaptionLines c = Due.type(new CaptionLines(), all);
                DUE.answers(dueFor(all), "text \"" + all + "\"", () -> c.text(0, 0));
            }
        }
    }

    private static int dueFor(String row) {
        if (isText(row)) {
            return 0;
        }
        int place = 0;
        while (place < row.length() && beginsAText(row.substring(0, place + 1))) {
            place++;
        }
        return -1 - place;
    }

    private static boolean beginsAText(String row) {
        return isText(row) || isText(row + "a");
    }

    private static boolean isText(String row) {
        return row.matches("[a-z]+\\.?( [a-z]+\\.?)*");
    }

    private static void fullPads() {
        CaptionLines c = new CaptionLines();
        Due.type(c, "ab ".repeat(26) + "cd");
        DUE.answers(0, "80 signs", () -> c.text(0, 0));
        DUE.answers("ab ".repeat(26) + "cd", "80 signs again", () -> Due.version(c, 0, 0, 0));
        CaptionLines wrongEnd = Due.type(new CaptionLines(), "x".repeat(79) + " ");
        DUE.answers(-81, "80 signs of which only the end is wrong", () -> wrongEnd.text(0, 0));
        CaptionLines wrongSign = Due.type(new CaptionLines(), "x".repeat(78) + "..");
        DUE.answers(-80, "80 signs of which the last is wrong", () -> wrongSign.text(0, 0));
    }

    private static void versions() {
        CaptionLines c = new CaptionLines();
        for (int version = 0; version < 4; version++) {
            int of = version;
            DUE.answers(of, "version " + of, () -> Due.text(c, 9, 4, "v" + (char) ('a' + of)));
            DUE.answers(of + 1, "versions of all", () -> c.count(1));
        }
        for (int version = 0; version < 4; version++) {
            int of = version;
            DUE.answers("v" + (char) ('a' + of), "version " + of, () -> Due.version(c, 9, 4, of));
        }
        DUE.answers("throws.IllegalStateException", "a fifth", () -> Due.text(c, 9, 4, "ve"));
        DUE.answers(2, "the pad stays", () -> c.count(0));
        DUE.answers("throws.IllegalStateException", "a fifth, wrong as a text, too", () -> Due.text(c, 9, 4, "  "));
        c.clear();
        DUE.answers("throws.IllegalStateException", "a fifth, empty", () -> c.text(9, 4));
        DUE.answers(0, "another language", () -> Due.text(c, 9, 3, "other"));
        DUE.answers(0, "another caption", () -> Due.text(c, 8, 4, "another"));
        DUE.answers("vd", "version 3 still", () -> Due.version(c, 9, 4, 3));
        DUE.answers("other", "another language's", () -> Due.version(c, 9, 3, 0));
        DUE.answers("another", "another caption's", () -> Due.version(c, 8, 4, 0));
        DUE.answers(6, "versions of all", () -> c.count(1));
        allTwoHundred();
    }

    /** Two calls for each version: the cells of one text come back as often as they are wanted. */
    private static void allTwoHundred() {
        CaptionLines c = new CaptionLines();
        Due.text(c, 0, 0, "x.");
        c.fingers(0, 0);
        for (int n = 1; n < 200; n++) {
            int of = n;
            c.back();
            DUE.answers(n / 50, "version by number " + n, () -> c.text(of % 10, of / 10 % 5));
        }
        DUE.answers(200, "versions of all", () -> c.count(1));
        DUE.answers(46, "the last sign of the last version", () -> c.sign(9, 4, 3, 1));
        DUE.answers("throws.IndexOutOfBoundsException", "no version 4 of the last", () -> c.sign(9, 4, 4, 0));
        DUE.answers("throws.IndexOutOfBoundsException", "no version 4 of the first", () -> c.sign(0, 0, 4, 0));
    }

    private static void refusals() {
        for (int caption : NO_CAPTIONS) {
            DUE.refuses(IndexOutOfBoundsException.class, "text(" + caption + ", 0)", x -> x.text(caption, 0));
        }
        for (int language : NO_LANGUAGES) {
            DUE.refuses(IndexOutOfBoundsException.class, "text(0, " + language + ")", x -> x.text(0, language));
        }
        DUE.refusesAfter(TextTest::fillFirst, IllegalStateException.class, "text(0, 1), full", x -> x.text(0, 1));
        DUE.answersAndKeeps(x -> x.unit(' '), -5, "text of \"abc \"", x -> x.text(0, 0));
        DUE.answersAndKeeps(CaptionLines::clear, -1, "text of nothing", x -> x.text(0, 0));
    }

    private static void fillFirst(CaptionLines c) {
        c.text(0, 1);
        Due.text(c, 0, 1, "again");
        Due.type(c, "more");
    }

    private static void signRefusals() {
        for (int caption : NO_CAPTIONS) {
            DUE.refuses(IndexOutOfBoundsException.class, "sign(" + caption + ", 0, 0, 0)", x -> x.sign(caption, 0, 0, 0));
        }
        for (int language : NO_LANGUAGES) {
            DUE.refuses(IndexOutOfBoundsException.class, "sign(0, " + language + ", 0, 0)", x -> x.sign(0, language, 0, 0));
        }
        for (int version : new int[] {-1, 1, 2, 4, Integer.MIN_VALUE, Integer.MAX_VALUE}) {
            DUE.refuses(IndexOutOfBoundsException.class, "sign(0, 0, " + version + ", 0)", x -> x.sign(0, 0, version, 0));
            DUE.refuses(IndexOutOfBoundsException.class, "sign(0, 0, " + version + ", -1)", x -> x.sign(0, 0, version, -1));
        }
        for (int i : new int[] {-2, 11, 80, Integer.MIN_VALUE, Integer.MAX_VALUE}) {
            DUE.refuses(IndexOutOfBoundsException.class, "sign(0, 0, 0, " + i + ")", x -> x.sign(0, 0, 0, i));
        }
        DUE.refuses(IndexOutOfBoundsException.class, "a fallback's version", x -> x.sign(0, 2, 0, 0));
        DUE.answersAndKeeps(x -> { }, 11, "sign(0, 0, 0, -1)", x -> x.sign(0, 0, 0, -1));
        DUE.answersAndKeeps(x -> { }, (int) 't', "sign(0, 0, 0, 0)", x -> x.sign(0, 0, 0, 0));
        DUE.answersAndKeeps(x -> { }, (int) 'e', "sign(0, 0, 0, 10)", x -> x.sign(0, 0, 0, 10));
        DUE.answersAndKeeps(x -> { }, (int) ' ', "sign(0, 0, 0, 3)", x -> x.sign(0, 0, 0, 3));
        DUE.answersAndKeeps(x -> { }, (int) '.', "sign(0, 0, 0, 7)", x -> x.sign(0, 0, 0, 7));
        DUE.answersAndKeeps(x -> { }, "when", "an earlier version", x -> Due.version(x, 0, 1, 0));
    }
}
