/** Promises 11 to 14: contract, fingers, cell, back. */
public final class CellsTest {
    private static final Due DUE = new Due();
    private static final String CONTRACT = "Promise 11: contract";
    private static final String FINGERS = "Promise 12: fingers";
    private static final String CELL = "Promise 13: cell";
    private static final String BACK = "Promise 14: back";

    public static void main(String[] args) {
        becomesAContraction();
        isEmptyThen();
        cellHasOne();
        rowHasOne();
        noRowOfLetters();
        noCellForIt();
        howManyCells();
        notShown();
        noCaptionOrLanguage();
        cellOfTheLatest();
        noSuchCell();
        inPlaceOfThePad();
        howManySigns();
        thereWereNone();
        DUE.end();
    }

    private static void written(CaptionLines c, int caption, String text, String want) {
        Due.text(c, caption, 0, text);
        c.fingers(caption, 0);
        DUE.answers(want, "\"" + text + "\" as cells", () -> Due.cells(c));
    }

    private static void becomesAContraction() {
        DUE.sentence(CONTRACT, "The pad becomes a contraction with a cell");
        CaptionLines c = new CaptionLines();
        DUE.answers(true, "contract(28)", () -> Due.contract(c, "ab", 28));
        DUE.answers(1, "contractions", () -> c.count(2));
        DUE.answers(true, "contract(63)", () -> Due.contract(c, "vwxyz", 63));
        DUE.answers(2, "contractions", () -> c.count(2));
        written(c, 0, "ab vwxyz", "28 0 63");
    }

    private static void isEmptyThen() {
        DUE.sentence(CONTRACT, "and is empty");
        CaptionLines c = new CaptionLines();
        Due.contract(c, "abcde", 28);
        DUE.answers(0, "signs of the pad", () -> c.count(0));
        DUE.answers(0, "clear()", c::clear);
        DUE.answers(1, "unit", () -> c.unit('z'));
        c.text(0, 0);
        DUE.answers("z", "nothing of the row ahead", () -> Due.version(c, 0, 0, 0));
    }

    private static void cellHasOne() {
        DUE.sentence(CONTRACT, "whether that can be (no, if the cell");
        for (int cell : new int[] {28, 29, 62, 63}) {
            CaptionLines c = new CaptionLines();
            Due.contract(c, "ab", cell);
            Due.type(c, "cd");
            DUE.answers(false, "another row with cell " + cell, () -> c.contract(cell));
            DUE.answers(2, "the pad stays", () -> c.count(0));
            DUE.answers(1, "no contraction more", () -> c.count(2));
            DUE.answers(true, "with a free one", () -> c.contract(40));
            written(c, 0, "ab cd", cell + " 0 40");
        }
        CaptionLines full = new CaptionLines();
        for (int cell = 28; cell <= 63; cell++) {
            int free = cell;
            DUE.answers(true, "contract(" + cell + ")", () -> Due.contractTwo(full, free));
        }
        DUE.answers(36, "all contractions", () -> full.count(2));
        Due.type(full, "zz");
        for (int cell = 28; cell <= 63; cell++) {
            int taken = cell;
            DUE.answers(false, "contract(" + cell + ") when all are taken", () -> full.contract(taken));
        }
        DUE.answers(36, "all contractions still", () -> full.count(2));
        DUE.keeps(false, "contract(29), the cell's own", x -> x.contract(29));
        DUE.keeps(false, "contract(30), the cell's own", x -> x.contract(30));
    }

    private static void rowHasOne() {
        DUE.sentence(CONTRACT, "or the row has one already)");
        for (String row : new String[] {"ab", "abc", "abcd", "abcde"}) {
            CaptionLines c = new CaptionLines();
            Due.contract(c, row, 40);
            DUE.answers(false, row + " with another cell", () -> Due.contract(c, row, 41));
            DUE.answers(false, row + " with its own", () -> c.contract(40));
            DUE.answers(row.length(), "the pad stays", () -> c.count(0));
            DUE.answers(1, "no contraction more", () -> c.count(2));
            c.clear();
            written(c, 0, row, "40");
        }
        CaptionLines c = new CaptionLines();
        Due.contract(c, "abc", 30);
        DUE.answers(true, "a row that another one begins with", () -> Due.contract(c, "ab", 31));
        DUE.answers(true, "a row that begins with another one", () -> Due.contract(c, "abcd", 32));
        DUE.answers(true, "a row that another one ends with", () -> Due.contract(c, "bc", 33));
        DUE.answers(true, "the same letters the other way round", () -> Due.contract(c, "cba", 34));
        DUE.keepsAfter(x -> Due.retype(x, "the"), false, "contract(40) of the", x -> x.contract(40));
        DUE.keepsAfter(x -> Due.retype(x, "he"), false, "contract(29) of he", x -> x.contract(29));
        DUE.keepsAfter(x -> Due.retype(x, "he"), false, "contract(30) of he", x -> x.contract(30));
    }

    private static void noRowOfLetters() {
        DUE.sentence(CONTRACT, "IllegalStateException: the pad is not 2 .. 5 letters.");
        for (String row : new String[] {"ab", "az", "zzz", "abcd", "abcde", "zzzzz"}) {
            CaptionLines c = new CaptionLines();
            DUE.answers(true, "contract(40) of " + row, () -> Due.contract(c, row, 40));
        }
        String[] none = {"", "a", "abcdef", "x".repeat(80), " ", "..", "  ", "a ", "ab ", " ab", "a b", "ab.", ".ab",
            "a.b", "abcd.", "abcd ", " bcde", "ab de", "abcde."};
        for (String row : none) {
            for (int cell : new int[] {40, 29, 27, 64}) {
                DUE.keepsAfter(x -> Due.retype(x, row), Due.STATE, "contract(" + cell + ") of \"" + row + "\"",
                        x -> x.contract(cell));
            }
        }
    }

    private static void noCellForIt() {
        DUE.sentence(CONTRACT, "IllegalArgumentException: cell is not 28 .. 63.");
        for (int cell : new int[] {28, 63}) {
            CaptionLines c = new CaptionLines();
            DUE.answers(true, "contract(" + cell + ")", () -> Due.contract(c, "ab", cell));
        }
        for (int cell : new int[] {27, 64, -1, 0, 1, 26, 65, Integer.MIN_VALUE, Integer.MAX_VALUE}) {
            DUE.keeps(Due.ARGUMENT, "contract(" + cell + ")", x -> x.contract(cell));
            DUE.keepsAfter(x -> Due.retype(x, "the"), Due.ARGUMENT, "contract(" + cell + ") of the",
                    x -> x.contract(cell));
        }
    }

    private static void howManyCells() {
        DUE.sentence(FINGERS, "What is shown of a caption as cells: how many");
        CaptionLines c = new CaptionLines();
        Due.text(c, 0, 0, "a");
        DUE.answers(1, "one sign", () -> c.fingers(0, 0));
        Due.text(c, 0, 0, "x".repeat(79) + ".");
        DUE.answers(80, "80 signs, the latest version", () -> c.fingers(0, 0));
        c.falls(4, 0);
        DUE.answers(80, "by a fallback", () -> c.fingers(0, 4));
        Due.contract(c, "xxxxx", 63);
        DUE.answers(20, "15 times five, four and a stop", () -> c.fingers(0, 0));
        Due.text(c, 0, 0, "x".repeat(80));
        DUE.answers(16, "16 times five", () -> c.fingers(0, 0));
        Due.text(c, 0, 4, "y");
        DUE.answers(1, "its own", () -> c.fingers(0, 4));
    }

    private static void notShown() {
        DUE.sentence(FINGERS, "NONE if it is not shown");
        DUE.answers(-1, "a new object", () -> new CaptionLines().fingers(0, 0));
        DUE.keeps(-1, "fingers(1, 0), no version", x -> x.fingers(1, 0));
        DUE.keeps(-1, "fingers(0, 4), no fallback", x -> x.fingers(0, 4));
        DUE.keeps(-1, "fingers(1, 3), fallbacks without a version", x -> x.fingers(1, 3));
    }

    private static void noCaptionOrLanguage() {
        DUE.sentence(FINGERS, "IndexOutOfBoundsException");
        DUE.takesCaptionAndLanguage("fingers", CaptionLines::fingers);
    }

    private static void cellOfTheLatest() {
        DUE.sentence(CELL, "Cell k of the latest");
        CaptionLines c = new CaptionLines();
        written(c, 0, "ab cd", "1 2 0 3 4");
        DUE.answers(-1, "not shown", () -> c.fingers(1, 0));
        DUE.answers("1 2 0 3 4", "behind what is not shown", () -> Due.cells(c));
        Due.contract(c, "ab", 60);
        DUE.answers("1 2 0 3 4", "behind a new contraction", () -> Due.cells(c));
        DUE.answers(4, "anew", () -> c.fingers(0, 0));
        DUE.answers("60 0 3 4", "the latest", () -> Due.cells(c));
        Due.text(c, 0, 0, "z");
        DUE.answers("60 0 3 4", "behind a new version", () -> Due.cells(c));
        DUE.answers(1, "the new version", () -> c.fingers(0, 0));
        DUE.answers("26", "the latest", () -> Due.cells(c));
        DUE.keeps(29, "cell(0)", x -> x.cell(0));
        DUE.keeps(30, "cell(7)", x -> x.cell(7));
    }

    private static void noSuchCell() {
        DUE.sentence(CELL, "IndexOutOfBoundsException");
        for (int k : new int[] {-1, 0, 1}) {
            DUE.answers(Due.INDEX, "cell(" + k + ") at first", () -> new CaptionLines().cell(k));
        }
        for (int k : new int[] {-1, 8, 9, 79, 80, Integer.MIN_VALUE, Integer.MAX_VALUE}) {
            DUE.keeps(Due.INDEX, "cell(" + k + ")", x -> x.cell(k));
        }
        CaptionLines c = new CaptionLines();
        Due.text(c, 0, 0, "x".repeat(79) + ".");
        c.fingers(0, 0);
        DUE.answers(27, "cell 79 of 80", () -> c.cell(79));
        DUE.answers(Due.INDEX, "cell 80 of 80", () -> c.cell(80));
        Due.text(c, 0, 0, "x");
        c.fingers(0, 0);
        DUE.answers(24, "cell 0 of 1", () -> c.cell(0));
        DUE.answers(Due.INDEX, "cell 1 of 1, there ahead of it", () -> c.cell(1));
    }

    private static void inPlaceOfThePad() {
        DUE.sentence(BACK, "The latest cells read back come to the pad, in place of what it had");
        String text = "the thing. is the king in there";
        for (String had : new String[] {"", "z", "z ..", "z".repeat(79), "z".repeat(80)}) {
            CaptionLines c = new CaptionLines();
            Due.contract(c, "the", 28);
            Due.contract(c, "ing", 63);
            Due.text(c, 0, 0, text);
            c.fingers(0, 0);
            Due.type(c, had);
            DUE.answers(text.length(), "back() to a pad of " + had.length(), c::back);
            DUE.answers(text.length(), "the pad's signs", () -> c.count(0));
            DUE.answers(text.length(), "back() again", c::back);
            DUE.answers(0, "text", () -> c.text(0, 1));
            DUE.answers(text, "its signs", () -> Due.version(c, 0, 1, 0));
            DUE.answers(text.length(), "the cells stay", c::back);
        }
        CaptionLines c = new CaptionLines();
        Due.text(c, 0, 0, "ab cd");
        c.fingers(0, 0);
        Due.contract(c, "ab", 60);
        DUE.answers(5, "back() behind a new contraction", c::back);
        c.text(2, 2);
        DUE.answers("ab cd", "as it was written", () -> Due.version(c, 2, 2, 0));
        DUE.keepsAfter(CaptionLines::back, 11, "back(), as it is", CaptionLines::back);
        everySignComesBack();
    }

    private static void everySignComesBack() {
        CaptionLines c = new CaptionLines();
        String text = "abcdefghijklm. nopqrstuvwxyz.";
        Due.text(c, 0, 0, text);
        c.fingers(0, 0);
        c.back();
        c.text(0, 0);
        DUE.answers(text, "every sign", () -> Due.version(c, 0, 0, 1));
        CaptionLines all = new CaptionLines();
        for (int cell = 28; cell <= 63; cell++) {
            Due.contractTwo(all, cell);
        }
        String pairs = "qaqbqcqdqeqf.rarbrcrdrerf.sasbscsdsesf.".replace(".", ". ") + "tatbtctdtetf";
        Due.text(all, 0, 0, pairs);
        DUE.answers(24 + 6, "cells of 24 contractions", () -> all.fingers(0, 0));
        all.back();
        all.text(0, 0);
        DUE.answers(pairs, "and back", () -> Due.version(all, 0, 0, 1));
    }

    private static void howManySigns() {
        DUE.sentence(BACK, "how many signs");
        CaptionLines c = new CaptionLines();
        Due.contract(c, "ab", 63);
        Due.text(c, 0, 0, "x");
        c.fingers(0, 0);
        DUE.answers(1, "one sign", c::back);
        c.clear();
        Due.text(c, 0, 0, "ab".repeat(40));
        DUE.answers(40, "80 signs in 40 cells", () -> c.fingers(0, 0));
        DUE.answers(80, "and back", c::back);
        DUE.answers(Due.STATE, "a full pad", () -> c.unit('a'));
        c.text(0, 0);
        DUE.answers("ab".repeat(40), "80 signs", () -> Due.version(c, 0, 0, 2));
    }

    private static void thereWereNone() {
        DUE.sentence(BACK, "IllegalStateException: there were none.");
        CaptionLines c = Due.type(new CaptionLines(), "ab");
        DUE.answers(Due.STATE, "back() at first", c::back);
        DUE.answers(-1, "fingers of what is not shown", () -> c.fingers(0, 0));
        DUE.answers(Due.STATE, "back() behind it", c::back);
        DUE.answers(2, "the pad's signs", () -> c.count(0));
        DUE.answers(0, "text", () -> c.text(0, 0));
        DUE.answers("ab", "the pad stayed", () -> Due.version(c, 0, 0, 0));
        DUE.answers(Due.STATE, "back() behind a text", c::back);
        c.fingers(0, 0);
        DUE.answers(2, "back() behind its cells", c::back);
    }
}
