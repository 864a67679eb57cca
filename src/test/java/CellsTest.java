/** Promises 11 to 14: contract, fingers, cell, back. */
public final class CellsTest {
    private static final Due DUE = new Due();

    public static void main(String[] args) {
        ownCells();
        longestFirst();
        contracting();
        allContractions();
        latestStays();
        back();
        refusals();
        DUE.end();
    }

    private static void ownCells() {
        CaptionLines c = new CaptionLines();
        Due.text(c, 0, 0, "abcdefghijklm nopqrstuvwxyz.");
        DUE.answers(28, "fingers", () -> c.fingers(0, 0));
        DUE.answers("1 2 3 4 5 6 7 8 9 10 11 12 13 0 14 15 16 17 18 19 20 21 22 23 24 25 26 27", "own cells",
                () -> Due.cells(c));
    }

    private static void contract(CaptionLines c, String letters, int cell) {
        DUE.answers(true, "contract " + letters, () -> Due.type(c, letters).contract(cell));
    }

    private static void written(CaptionLines c, int caption, String text, String want) {
        Due.text(c, caption, 0, text);
        c.fingers(caption, 0);
        DUE.answers(want, "\"" + text + "\" as cells", () -> Due.cells(c));
    }

    private static void longestFirst() {
        CaptionLines c = new CaptionLines();
        contract(c, "ab", 63);
        contract(c, "abcde", 28);
        contract(c, "abcd", 45);
        contract(c, "cde", 30);
        written(c, 0, "abcde", "28");
        written(c, 1, "abcd", "45");
        written(c, 2, "abcde.", "28 27");
        written(c, 3, "abc", "63 3");
        written(c, 4, "aabcdeab", "1 28 63");
        written(c, 5, "abcdab cde", "45 63 0 30");
        written(c, 6, "ab. ab cd", "63 27 0 63 0 3 4");
        written(c, 7, "cdecd a bcde", "30 3 4 0 1 0 2 30");
        CaptionLines doubles = new CaptionLines();
        contract(doubles, "aa", 40);
        written(doubles, 0, "aaa aaaaa", "40 1 0 40 40 1");
        fromTheBeginningOn();
    }

    /** Not the fewest cells: a shorter one ahead may spoil a longer one behind it. */
    private static void fromTheBeginningOn() {
        CaptionLines c = new CaptionLines();
        contract(c, "bcdef", 28);
        contract(c, "ab", 29);
        written(c, 0, "abcdef", "29 3 4 5 6");
    }

    private static void contracting() {
        CaptionLines c = new CaptionLines();
        contract(c, "ab", 30);
        DUE.answers(0, "the pad is empty", () -> c.count(0));
        Due.type(c, "abc");
        DUE.answers(false, "the cell has one", () -> c.contract(30));
        DUE.answers(3, "the pad stays", () -> c.count(0));
        DUE.answers(1, "no contraction more", () -> c.count(2));
        DUE.answers(true, "another cell", () -> c.contract(31));
        DUE.answers(2, "two contractions", () -> c.count(2));
        Due.type(c, "ab");
        DUE.answers(false, "the row has a cell", () -> c.contract(32));
        DUE.answers(false, "both", () -> c.contract(30));
        DUE.answers(2, "the pad stays", () -> c.count(0));
        c.unit('d');
        DUE.answers(true, "a row that only begins like another", () -> c.contract(32));
        contract(c, "bc", 33);
        contract(c, "ba", 34);
        contract(c, "abcde", 28);
        contract(c, "zz", 63);
        DUE.answers(7, "contractions", () -> c.count(2));
        DUE.answersAndKeeps(x -> { }, false, "contract(29), the cell's own", x -> x.contract(29));
        DUE.answersAndKeeps(x -> retype(x, "the"), false, "contract(40) of the", x -> x.contract(40));
    }

    private static void allContractions() {
        CaptionLines c = new CaptionLines();
        for (int cell = 28; cell <= 63; cell++) {
            int n = cell - 28;
            contract(c, "" + (char) ('a' + n / 6) + (char) ('a' + n % 6), cell);
        }
        DUE.answers(36, "all contractions", () -> c.count(2));
        DUE.answers(false, "no more", () -> Due.type(c, "zz").contract(50));
        c.clear();
        written(c, 0, "aaaf fafff.", "28 33 0 58 63 6 27");
    }

    private static void latestStays() {
        CaptionLines c = new CaptionLines();
        written(c, 0, "ab cd", "1 2 0 3 4");
        DUE.answers(-1, "not shown", () -> c.fingers(1, 0));
        DUE.answers("1 2 0 3 4", "the latest", () -> Due.cells(c));
        contract(c, "ab", 60);
        DUE.answers("1 2 0 3 4", "the latest behind a new contraction", () -> Due.cells(c));
        DUE.answers(5, "back", c::back);
        c.text(2, 2);
        DUE.answers("ab cd", "read back as it was written", () -> Due.version(c, 2, 2, 0));
        DUE.answers(4, "anew", () -> c.fingers(0, 0));
        DUE.answers("60 0 3 4", "the latest", () -> Due.cells(c));
        Due.text(c, 0, 0, "z");
        DUE.answers("60 0 3 4", "behind a new version", () -> Due.cells(c));
        DUE.answers(1, "the new version", () -> c.fingers(0, 0));
        DUE.answers("throws.IndexOutOfBoundsException", "a cell of those ahead", () -> c.cell(1));
        c.falls(4, 0);
        DUE.answers(1, "by a fallback", () -> c.fingers(0, 4));
        DUE.answersAndKeeps(x -> { }, -1, "fingers(1, 0), not shown", x -> x.fingers(1, 0));
    }

    private static void back() {
        CaptionLines c = new CaptionLines();
        contract(c, "the", 28);
        contract(c, "ing", 29);
        String text = "the thing. is the king in there";
        Due.text(c, 0, 0, text);
        DUE.answers("throws.IllegalStateException", "back() ahead of fingers", c::back);
        c.fingers(0, 0);
        Due.type(c, "z ..");
        DUE.answers(text.length(), "back()", c::back);
        DUE.answers(text.length(), "the pad's signs", () -> c.count(0));
        DUE.answers(text.length(), "back() again", c::back);
        DUE.answers(0, "text", () -> c.text(0, 1));
        DUE.answers(text, "what was in the pad is gone", () -> Due.version(c, 0, 1, 0));
        DUE.answers(text.length(), "the cells stay", c::back);
        CaptionLines full = Due.type(new CaptionLines(), "ab");
        full.contract(63);
        Due.text(full, 0, 0, "ab".repeat(40));
        DUE.answers(40, "80 signs in 40 cells", () -> full.fingers(0, 0));
        DUE.answers(80, "and back", full::back);
        DUE.answers("throws.IllegalStateException", "a full pad", () -> full.unit('a'));
        full.text(0, 0);
        DUE.answers("ab".repeat(40), "80 signs", () -> Due.version(full, 0, 0, 1));
    }

    private static void refusals() {
        String[] none = {"", "a", "abcdef", "a b", "ab ", " ab", "ab.", ".ab", "a.b", " ", "..", "  "};
        for (String row : none) {
            DUE.refusesAfter(x -> retype(x, row), IllegalStateException.class, "contract(40) of \"" + row + "\"",
                    x -> x.contract(40) ? 1 : 0);
            DUE.refusesAfter(x -> retype(x, row), IllegalStateException.class, "contract(0) of \"" + row + "\"",
                    x -> x.contract(0) ? 1 : 0);
        }
        for (int cell : new int[] {27, 64, 0, -1, 1, Integer.MIN_VALUE, Integer.MAX_VALUE}) {
            DUE.refuses(IllegalArgumentException.class, "contract(" + cell + ")", x -> x.contract(cell) ? 1 : 0);
            DUE.refusesAfter(x -> retype(x, "the"), IllegalArgumentException.class, "contract(" + cell + ") of the",
                    x -> x.contract(cell) ? 1 : 0);
        }
        for (int bad : new int[] {-1, 10, Integer.MIN_VALUE, Integer.MAX_VALUE}) {
            DUE.refuses(IndexOutOfBoundsException.class, "fingers(" + bad + ", 0)", x -> x.fingers(bad, 0));
            DUE.refuses(IndexOutOfBoundsException.class, "fingers(0, " + bad + ")", x -> x.fingers(0, bad));
        }
        DUE.refuses(IndexOutOfBoundsException.class, "fingers(0, 5)", x -> x.fingers(0, 5));
        for (int k : new int[] {-1, 8, 9, 80, Integer.MIN_VALUE, Integer.MAX_VALUE}) {
            DUE.refuses(IndexOutOfBoundsException.class, "cell(" + k + ")", x -> x.cell(k));
        }
        DUE.answersAndKeeps(x -> { }, 29, "cell(0)", x -> x.cell(0));
        DUE.answersAndKeeps(x -> { }, 30, "cell(7)", x -> x.cell(7));
        CaptionLines c = Due.type(new CaptionLines(), "ab");
        DUE.answers("throws.IllegalStateException", "back() without cells", c::back);
        DUE.answers(0, "text", () -> c.text(0, 0));
        DUE.answers("ab", "the pad stayed", () -> Due.version(c, 0, 0, 0));
    }

    private static void retype(CaptionLines c, String row) {
        c.clear();
        Due.type(c, row);
    }
}
