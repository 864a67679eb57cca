/** Promises 4 and 7: text, sign. */
public final class TextTest {
    private static final Due DUE = new Due();
    private static final String TEXT = "Promise 4: text";
    private static final String SIGN = "Promise 7: sign";

    public static void main(String[] args) {
        becomesTheLatest();
        isEmptyThen();
        versionsNumber();
        firstWrongSign();
        everyRowOfFive();
        onlyTheEndIsWrong();
        emptyPad();
        padStays();
        noCaptionOrLanguage();
        fourVersions();
        signOfAVersion();
        lengthOfAVersion();
        noSuchSign();
        DUE.end();
    }

    private static void becomesTheLatest() {
        DUE.sentence(TEXT, "The pad becomes a caption's latest version in a language");
        String[] texts = {"a", "z", "a.", "ab", "a b", "a. b", "a. b.", "abc de. f ghi. j.", "a b c d e f", "z. z. z.",
            "x".repeat(79), "x".repeat(80), "x".repeat(79) + ".", "ab ".repeat(26) + "cd", "a ".repeat(39) + "b."};
        for (String text : texts) {
            CaptionLines c = new CaptionLines();
            DUE.answers(0, "text \"" + text + "\"", () -> Due.text(c, 3, 2, text));
            DUE.answers(text, "its signs", () -> Due.version(c, 3, 2, 0));
            DUE.answers(2, "its language", () -> c.shown(3, 2));
            DUE.answers(1, "versions of all", () -> c.count(1));
        }
        CaptionLines c = new CaptionLines();
        for (int version = 0; version < 4; version++) {
            int length = 4 - version;
            Due.text(c, 9, 4, "xyzw".substring(version));
            DUE.answers(length, "cells of the latest one", () -> c.fingers(9, 4));
        }
        for (int version = 0; version < 4; version++) {
            int of = version;
            DUE.answers("xyzw".substring(version), "version " + of + " as it was", () -> Due.version(c, 9, 4, of));
        }
        pagesAreApart();
    }

    private static void pagesAreApart() {
        CaptionLines c = new CaptionLines();
        for (int n = 0; n < 50; n++) {
            Due.text(c, n / 5, n % 5, "" + (char) ('a' + n / 5) + (char) ('a' + n % 5));
        }
        for (int n = 0; n < 50; n++) {
            int of = n;
            String want = "" + (char) ('a' + n / 5) + (char) ('a' + n % 5);
            DUE.answers(want, "caption " + n / 5 + ", language " + n % 5, () -> Due.version(c, of / 5, of % 5, 0));
        }
    }

    private static void isEmptyThen() {
        DUE.sentence(TEXT, "and is empty");
        for (String text : new String[] {"a", "a. b.", "x".repeat(80)}) {
            CaptionLines c = new CaptionLines();
            Due.text(c, 0, 0, text);
            DUE.answers(0, "signs of the pad", () -> c.count(0));
            DUE.answers(-1, "text again", () -> c.text(0, 0));
            DUE.answers(0, "clear()", c::clear);
            DUE.answers(1, "unit", () -> c.unit('b'));
            c.text(0, 0);
            DUE.answers("b", "nothing of the text ahead", () -> Due.version(c, 0, 0, 1));
        }
    }

    private static void versionsNumber() {
        DUE.sentence(TEXT, "the version's number");
        CaptionLines c = new CaptionLines();
        for (int version = 0; version < 4; version++) {
            int of = version;
            DUE.answers(of, "version " + of, () -> Due.text(c, 9, 4, "x"));
            DUE.answers(of, "another language's", () -> Due.text(c, 9, 0, "x"));
            DUE.answers(of, "another caption's", () -> Due.text(c, 0, 4, "x"));
            DUE.answers(3 * of + 3, "versions of all", () -> c.count(1));
        }
        allTwoHundred();
    }

    /** Two calls for each version: the cells of one text come back as often as they are wanted. */
    private static void allTwoHundred() {
        CaptionLines c = new CaptionLines();
        Due.text(c, 0, 0, "x.");
        c.fingers(0, 0);
        for (int n = 1; n < 200; n++) {
            int of = n;
            c.back();
            DUE.answers(n / 50, "version by number " + n, () -> c.text(of % 10, of / 10 % 5));
        }
        DUE.answers(200, "versions of all", () -> c.count(1));
        DUE.answers(46, "the last sign of the last version", () -> c.sign(9, 4, 3, 1));
    }

    private static void wrongAt(int place, String row) {
        CaptionLines c = Due.type(new CaptionLines(), row);
        DUE.answers(-1 - place, "text \"" + row + "\"", () -> c.text(0, 0));
        DUE.answers(row.length(), "its pad", () -> c.count(0));
        DUE.answers(0, "no version of it", () -> c.count(1));
        DUE.answers(-1, "nothing shown of it", () -> c.shown(0, 0));
        DUE.answers(-1 - place, "text \"" + row + "\" again", () -> c.text(9, 4));
    }

    private static void firstWrongSign() {
        DUE.sentence(TEXT, "-1 minus the place of the first sign that no text could have there behind those ahead of it");
        wrongAt(0, " ");
        wrongAt(0, ".");
        wrongAt(0, " a");
        wrongAt(0, ".a");
        wrongAt(0, "  .. ");
        wrongAt(2, "a  ");
        wrongAt(2, "a  b");
        wrongAt(2, "a .");
        wrongAt(2, "a..");
        wrongAt(2, "a.b");
        wrongAt(2, "a.b ");
        wrongAt(3, "a. .");
        wrongAt(3, "a.  b");
        wrongAt(10, "ab cd. ef.g");
        wrongAt(2, "a.b  c..");
        wrongAt(78, "x".repeat(77) + ".xx");
        wrongAt(79, "x".repeat(78) + "..");
        wrongAt(79, "x".repeat(78) + ".x");
        wrongAt(79, "x".repeat(78) + "  ");
        wrongAt(79, "x".repeat(78) + " .");
    }

    /** The definition once more, by looking at which rows have a text that begins with them. */
    private static void everyRowOfFive() {
        String signs = "a .";
        for (int length = 1; length <= 5; length++) {
            for (int number = 0; number < Math.pow(3, length); number++) {
                StringBuilder row = new StringBuilder();
                for (int i = 0, rest = number; i < length; i++, rest /= 3) {
                    row.append(signs.charAt(rest % 3));
                }
                String all = row.toString();
                CaptionLines c = Due.type(new CaptionLines(), all);
                DUE.answers(dueFor(all), "text \"" + all + "\"", () -> c.text(0, 0));
            }
        }
    }

    private static int dueFor(String row) {
        if (isText(row)) {
            return 0;
        }
        int place = 0;
        while (place < row.length() && beginsAText(row.substring(0, place + 1))) {
            place++;
        }
        return -1 - place;
    }

    private static boolean beginsAText(String row) {
        return isText(row) || isText(row + "a");
    }

    private static boolean isText(String row) {
        return row.matches("[a-z]+\\.?( [a-z]+\\.?)*");
    }

    private static void onlyTheEndIsWrong() {
        DUE.sentence(TEXT, "the pad's length, if only its end is wrong");
        wrongAt(2, "a ");
        wrongAt(3, "a. ");
        wrongAt(10, "ab cd. ef ");
        wrongAt(79, "x".repeat(78) + " ");
        wrongAt(80, "x".repeat(79) + " ");
        wrongAt(80, "x".repeat(78) + ". ");
    }

    private static void emptyPad() {
        DUE.sentence(TEXT, "or it is empty");
        wrongAt(0, "");
        CaptionLines c = Due.type(new CaptionLines(), "ab");
        c.clear();
        DUE.answers(-1, "text behind clear()", () -> c.text(0, 0));
        Due.contract(c, "ab", 28);
        DUE.answers(-1, "text behind contract()", () -> c.text(0, 0));
        DUE.keepsAfter(CaptionLines::clear, -1, "text of nothing", x -> x.text(0, 0));
    }

    private static void padStays() {
        DUE.sentence(TEXT, "and the pad stays");
        CaptionLines c = Due.type(new CaptionLines(), "ab ");
        DUE.answers(-4, "text \"ab \"", () -> c.text(0, 0));
        DUE.answers(4, "unit behind it", () -> c.unit('c'));
        DUE.answers(0, "text of both", () -> c.text(0, 0));
        DUE.answers("ab c", "its signs", () -> Due.version(c, 0, 0, 0));
        CaptionLines full = Due.type(new CaptionLines(), "x".repeat(79) + " ");
        DUE.answers(-81, "text of a full pad", () -> full.text(0, 0));
        DUE.answers(Due.STATE, "unit behind it", () -> full.unit('c'));
        DUE.answers(80, "clear()", full::clear);
        DUE.keepsAfter(x -> x.unit(' '), -5, "text of \"abc \"", x -> x.text(0, 0));
        DUE.keepsAfter(x -> Due.type(x, ".."), -5, "text of \"abc..\"", x -> x.text(0, 0));
        DUE.keepsAfter(x -> Due.retype(x, " a"), -1, "text of \" a\"", x -> x.text(0, 1));
    }

    private static void noCaptionOrLanguage() {
        DUE.sentence(TEXT, "IndexOutOfBoundsException");
        DUE.takesCaptionAndLanguage("text", CaptionLines::text);
        for (String row : new String[] {"", " ", "a..", "a "}) {
            DUE.keepsAfter(x -> Due.retype(x, row), Due.INDEX, "text(10, 0) of \"" + row + "\"", x -> x.text(10, 0));
            DUE.keepsAfter(x -> Due.retype(x, row), Due.INDEX, "text(0, 5) of \"" + row + "\"", x -> x.text(0, 5));
        }
    }

    private static void fourVersions() {
        DUE.sentence(TEXT, "IllegalStateException: there are four.");
        for (int n : new int[] {0, 4, 45, 49}) {
            CaptionLines c = new CaptionLines();
            Due.text(c, n / 5, n % 5, "a");
            Due.text(c, n / 5, n % 5, "b");
            Due.text(c, n / 5, n % 5, "c");
            DUE.answers(3, "the fourth", () -> Due.text(c, n / 5, n % 5, "d"));
            DUE.answers(Due.STATE, "a fifth", () -> Due.text(c, n / 5, n % 5, "e"));
            DUE.answers(0, "the same in another language", () -> c.text(n / 5, 2));
            DUE.answers("e", "its signs", () -> Due.version(c, n / 5, 2, 0));
            DUE.answers("d", "the fourth, still", () -> Due.version(c, n / 5, n % 5, 3));
            DUE.answers(5, "versions of all", () -> c.count(1));
        }
        for (String row : new String[] {"more", "", " ", "a..", "a ", "x".repeat(80)}) {
            DUE.keepsAfter(x -> fourOfTheFirst(x, row), Due.STATE, "text of \"" + row + "\"", x -> x.text(0, 1));
        }
    }

    /** Two versions are there, the pad and one more text make four. */
    private static void fourOfTheFirst(CaptionLines c, String row) {
        c.text(0, 1);
        Due.text(c, 0, 1, "again");
        Due.type(c, row);
    }

    private static void signOfAVersion() {
        DUE.sentence(SIGN, "Sign i of a version");
        DUE.keeps((int) 't', "sign(0, 0, 0, 0)", x -> x.sign(0, 0, 0, 0));
        DUE.keeps((int) ' ', "sign(0, 0, 0, 3)", x -> x.sign(0, 0, 0, 3));
        DUE.keeps((int) '.', "sign(0, 0, 0, 7)", x -> x.sign(0, 0, 0, 7));
        DUE.keeps((int) 'e', "sign(0, 0, 0, 10)", x -> x.sign(0, 0, 0, 10));
        DUE.keeps((int) 'w', "sign(0, 1, 0, 0)", x -> x.sign(0, 1, 0, 0));
        DUE.keeps((int) 'e', "sign(0, 1, 1, 7)", x -> x.sign(0, 1, 1, 7));
        CaptionLines c = new CaptionLines();
        Due.text(c, 9, 4, "a");
        Due.text(c, 9, 4, "x".repeat(78) + "z.");
        DUE.answers((int) 'a', "the only sign", () -> c.sign(9, 4, 0, 0));
        DUE.answers((int) 'z', "sign 78 of 80", () -> c.sign(9, 4, 1, 78));
        DUE.answers((int) '.', "sign 79 of 80", () -> c.sign(9, 4, 1, 79));
    }

    private static void lengthOfAVersion() {
        DUE.sentence(SIGN, "i = -1: its length");
        for (int length : new int[] {1, 2, 79, 80}) {
            CaptionLines c = new CaptionLines();
            Due.text(c, 9, 4, "x".repeat(length));
            DUE.answers(length, "length " + length, () -> c.sign(9, 4, 0, -1));
        }
        DUE.keeps(11, "sign(0, 0, 0, -1)", x -> x.sign(0, 0, 0, -1));
        DUE.keeps(4, "sign(0, 1, 0, -1)", x -> x.sign(0, 1, 0, -1));
        DUE.keeps(8, "sign(0, 1, 1, -1)", x -> x.sign(0, 1, 1, -1));
    }

    private static void noSuchSign() {
        DUE.sentence(SIGN, "IndexOutOfBoundsException");
        DUE.takesCaptionAndLanguage("sign", (x, caption, language) -> x.sign(caption, language, 0, 0));
        DUE.takesCaptionAndLanguage("length", (x, caption, language) -> x.sign(caption, language, 0, -1));
        for (int version : new int[] {-1, 2, 3, 4, 5, Integer.MIN_VALUE, Integer.MAX_VALUE}) {
            DUE.keeps(Due.INDEX, "sign(0, 1, " + version + ", 0)", x -> x.sign(0, 1, version, 0));
            DUE.keeps(Due.INDEX, "sign(0, 1, " + version + ", -1)", x -> x.sign(0, 1, version, -1));
        }
        for (int i : new int[] {-2, 11, 12, 79, 80, Integer.MIN_VALUE, Integer.MAX_VALUE}) {
            DUE.keeps(Due.INDEX, "sign(0, 0, 0, " + i + ")", x -> x.sign(0, 0, 0, i));
        }
        DUE.keeps(Due.INDEX, "an earlier version is shorter", x -> x.sign(0, 1, 0, 4));
        DUE.keeps(Due.INDEX, "a fallback's version", x -> x.sign(0, 2, 0, 0));
        DUE.keeps(Due.INDEX, "a caption's without any", x -> x.sign(1, 0, 0, -1));
        fourVersionsAndNoMore();
    }

    private static void fourVersionsAndNoMore() {
        for (int n : new int[] {0, 4, 45, 49}) {
            CaptionLines c = new CaptionLines();
            for (int version = 0; version < 4; version++) {
                int of = version;
                DUE.answers(Due.INDEX, "version " + of + " ahead of it", () -> c.sign(n / 5, n % 5, of, -1));
                Due.text(c, n / 5, n % 5, "x");
                DUE.answers(1, "version " + of, () -> c.sign(n / 5, n % 5, of, -1));
            }
            DUE.answers(Due.INDEX, "version 4", () -> c.sign(n / 5, n % 5, 4, -1));
            DUE.answers(Due.INDEX, "version -1", () -> c.sign(n / 5, n % 5, -1, -1));
        }
        CaptionLines full = new CaptionLines();
        Due.text(full, 0, 0, "x".repeat(80));
        DUE.answers(Due.INDEX, "sign 80 of 80", () -> full.sign(0, 0, 0, 80));
        DUE.answers(Due.INDEX, "sign -2", () -> full.sign(0, 0, 0, -2));
    }
}
