import java.util.function.Consumer;

/** What the sections "What it is" and "Terms" say, beyond the promises' own words. */
public final class TermsTest {
    private static final Due DUE = new Due();
    private static final String WHAT_IT_IS = "What it is";
    private static final String TERMS = "Terms";

    public static void main(String[] args) {
        lastCall();
        pad();
        texts();
        words();
        sentences();
        captionsAndLanguages();
        versions();
        fallbacks();
        lines();
        ties();
        cells();
        contractions();
        longestFirst();
        zones();
        rooms();
        exceptionsInOrder();
        nothingChanges();
        DUE.end();
    }

    private static void lastCall() {
        DUE.sentence(WHAT_IT_IS, "An object is used for at most 512 calls after it has been made");
        CaptionLines ways = new CaptionLines();
        for (int n = 1; n < 512; n++) {
            boolean on = n % 2 == 1;
            DUE.answers(true, "call " + n, () -> ways.way(0, 23, on));
        }
        DUE.answers(1, "call 512", () -> ways.count(4));
        CaptionLines dear = new CaptionLines();
        Due.text(dear, 9, 4, "a ".repeat(39) + "b.");
        for (int n = 82; n < 512; n++) {
            DUE.answers(80, "call " + n, () -> dear.fingers(9, 4));
        }
        DUE.answers(80, "call 512", dear::back);
    }

    private static void pad() {
        DUE.sentence(TERMS, "THE PAD is a row of at most 80 SIGNS");
        CaptionLines c = Due.type(new CaptionLines(), "ab ".repeat(26) + "c");
        DUE.answers(80, "sign 80", () -> c.unit('d'));
        DUE.answers(Due.STATE, "sign 81", () -> c.unit('d'));
        DUE.answers(0, "a text of 80", () -> c.text(0, 0));
        DUE.answers("ab ".repeat(26) + "cd", "its signs", () -> Due.version(c, 0, 0, 0));
        c.fingers(0, 0);
        c.back();
        DUE.answers(Due.STATE, "sign 81 behind back()", () -> c.unit('d'));
        DUE.sentence(TERMS, "\"a\" .. \"z\", \" \" and \".\"");
        for (int sign : new int[] {'a', 'z', ' ', '.'}) {
            DUE.answers(1, "unit(" + sign + ")", () -> new CaptionLines().unit(sign));
        }
        for (int sign : new int[] {96, 123, 31, 33, 45, 47}) {
            DUE.keeps(Due.ARGUMENT, "unit(" + sign + ")", x -> x.unit(sign));
        }
    }

    private static void text(String row, int want) {
        CaptionLines c = Due.type(new CaptionLines(), row);
        DUE.answers(want, "text \"" + row + "\"", () -> c.text(0, 0));
    }

    private static void texts() {
        DUE.sentence(TERMS, "A TEXT has no \" \" at its beginning");
        text(" a", -1);
        text(" ", -1);
        text("a", 0);
        DUE.sentence(TERMS, "or end");
        text("a ", -3);
        text("a. ", -4);
        text("x".repeat(79) + " ", -81);
        text("a b", 0);
        DUE.sentence(TERMS, "or two behind one another");
        text("a  b", -3);
        text("a.  b", -4);
        text("x".repeat(77) + "  x", -79);
        text("a b c", 0);
        text("a. b c", 0);
        DUE.sentence(TERMS, "no \".\" but right behind a letter");
        text(".", -1);
        text(".a", -1);
        text("a .", -3);
        text("a..", -3);
        text("a.", 0);
        text("z.", 0);
        text("x".repeat(79) + ".", 0);
        DUE.sentence(TERMS, "and behind a \".\" \" \" or its end");
        text("a.b", -3);
        text("z.z", -3);
        text("x".repeat(78) + ".x", -80);
        text("a. b", 0);
        text("a. b.", 0);
    }

    private static void words() {
        DUE.sentence(TERMS, "Its WORDS lie between \" \" (a \".\" belongs to its word)");
        set("aaa. bb", 3, "none");
        set("aaa. bb", 4, "0+4 5+2 =0");
        set("a b.", 1, "none");
        set("a b.", 2, "0+1 2+2 =1");
        level("a", 10 + 5);
        level("a b", 10 + 10);
        level("a. b", 10 + 5);
        level("a ".repeat(39) + "b", 10 + 200);
    }

    private static void sentences() {
        DUE.sentence(TERMS, "SENTENCES end with \".\" or with the text");
        level("a b", 10 + 10);
        level("a b.", 10 + 10);
        level("a b. c d", 10 + 10);
        level("a b. c d.", 10 + 10);
        level("a. b. c d", 10 + 6);
        level("a. b. c. d.", 10 + 5);
    }

    private static void level(String text, int want) {
        CaptionLines c = new CaptionLines();
        Due.text(c, 0, 0, text);
        DUE.answers(want, "level of \"" + text + "\"", () -> c.level(0, 0));
    }

    private static void captionsAndLanguages() {
        DUE.sentence(TERMS, "CAPTIONS are 0 .. 9, LANGUAGES 0 .. 4");
        CaptionLines c = new CaptionLines();
        for (int n = 0; n < 50; n++) {
            int caption = n / 5;
            int language = n % 5;
            DUE.answers(-1, "shown(" + caption + ", " + language + ")", () -> c.shown(caption, language));
            Due.text(c, caption, language, "x".repeat(1 + n % 3));
        }
        for (int n = 0; n < 50; n++) {
            int caption = n / 5;
            int language = n % 5;
            String place = "(" + caption + ", " + language + ")";
            DUE.answers(language, "shown" + place, () -> c.shown(caption, language));
            DUE.answers(1 + n % 3, "fingers" + place, () -> c.fingers(caption, language));
        }
        DUE.answers(Due.INDEX, "caption 10", () -> c.shown(10, 0));
        DUE.answers(Due.INDEX, "caption -1", () -> c.shown(-1, 0));
        DUE.answers(Due.INDEX, "language 5", () -> c.shown(0, 5));
        DUE.answers(Due.INDEX, "language -1", () -> c.shown(0, -1));
    }

    private static void versions() {
        DUE.sentence(TERMS, "a caption may have up to four VERSIONS in each");
        CaptionLines c = new CaptionLines();
        for (int language = 0; language < 5; language++) {
            int of = language;
            for (int version = 0; version < 4; version++) {
                DUE.answers(version, "version " + version + " in " + of, () -> Due.text(c, 9, of, "x"));
            }
            DUE.answers(Due.STATE, "a fifth in " + of, () -> Due.text(c, 9, of, "y"));
            c.clear();
        }
        DUE.answers(20, "versions of all", () -> c.count(1));
        DUE.sentence(TERMS, "the LATEST of which is shown");
        CaptionLines latest = new CaptionLines();
        for (int version = 0; version < 4; version++) {
            int length = 1 + (version + 2) % 4;
            Due.text(latest, 0, 0, "x".repeat(length));
            DUE.answers(length, "cells of the latest", () -> latest.fingers(0, 0));
            DUE.answers(10 * length + 5, "level of the latest", () -> latest.level(0, 0));
            DUE.answers(1, "lines of the latest", () -> latest.lines(0, 0, length));
            DUE.answers(length, "signs of its line", () -> latest.line(0, 1));
        }
    }

    private static void fallbacks() {
        DUE.sentence(TERMS, "A language may FALL BACK to another one, without rings");
        for (int length = 1; length <= 5; length++) {
            CaptionLines c = new CaptionLines();
            int last = length - 1;
            for (int language = 0; language < last; language++) {
                int of = language;
                DUE.answers(true, "a step of a chain", () -> c.falls(of, of + 1));
            }
            DUE.answers(false, "a ring of " + length, () -> c.falls(last, 0));
        }
        DUE.sentence(TERMS, "a caption is SHOWN in the language, or, if it has no version there, "
                + "in the one that it falls back to, and so on");
        CaptionLines c = new CaptionLines();
        for (int language = 4; language > 0; language--) {
            c.falls(language, language - 1);
        }
        DUE.answers(-1, "in none", () -> c.shown(3, 4));
        for (int language = 0; language < 5; language++) {
            int of = language;
            Due.text(c, 3, of, "x");
            DUE.answers(of, "in " + (4 - of) + " steps", () -> c.shown(3, 4));
            DUE.answers(0, "in itself", () -> c.shown(3, 0));
        }
    }

    private static void set(String text, int width, String want) {
        CaptionLines c = new CaptionLines();
        Due.text(c, 2, 3, text);
        DUE.answers(want, "\"" + text + "\" in " + width, () -> {
            int lines = c.lines(2, 3, width);
            return lines == -1 ? "none" : Due.lines(c, lines);
        });
    }

    private static void lines() {
        DUE.sentence(TERMS, "a text's words, one \" \" between those of a line, a line's signs at most the width");
        set("aa bb", 5, "0+5 =0");
        set("aa bb", 4, "0+2 3+2 =4");
        set("aa bb. c", 6, "0+6 7+1 =0");
        set("aa bb. c", 8, "0+8 =0");
        set("aa bb. c", 7, "0+6 7+1 =1");
        set("x".repeat(29) + " " + "y".repeat(30), 60, "0+60 =0");
        set("x".repeat(30) + " " + "y".repeat(30), 60, "0+30 31+30 =900");
        set("a b c d", 1, "0+1 2+1 4+1 6+1 =0");
        DUE.sentence(TERMS, "the REST of a line is the width less its signs");
        set("aaa bbb", 3, "0+3 4+3 =0");
        set("aaa bbb", 4, "0+3 4+3 =1");
        set("aaa bbb", 6, "0+3 4+3 =9");
        set("aaa bbb", 7, "0+7 =0");
        set("a " + "x".repeat(60), 60, "0+1 2+60 =3481");
        DUE.sentence(TERMS, "The sum of the squares of the rests");
        set("aaa bbbb ccccc d", 5, "0+3 4+4 9+5 15+1 =5");
        set("a bbbb a bbbb a", 4, "0+1 2+4 7+1 9+4 14+1 =18");
        DUE.sentence(TERMS, "of all lines but the last");
        set("aaaaa b", 5, "0+5 6+1 =0");
        set("aaaaa b", 6, "0+5 6+1 =1");
        set("b", 60, "0+1 =0");
        DUE.sentence(TERMS, "is the least");
        set("aaa bb cc ddddd.", 6, "0+3 4+5 10+6 =10");
        set("aaa bb cc ddddd", 5, "0+3 4+5 10+5 =4");
        set("a b a b", 4, "0+3 4+3 =1");
        set("aa b cc dd", 5, "0+4 5+5 =1");
    }

    /** In all but the last three another way has the same sum and more words in the first line that differs. */
    private static void ties() {
        DUE.sentence(TERMS, "of such ways the one whose first line has the fewest words");
        set("a b c dddd", 4, "0+1 2+3 6+4 =10");
        set("aa b cc ddddd", 5, "0+2 3+4 8+5 =10");
        DUE.sentence(TERMS, "then the second, and so on");
        set("dddd a b c dddd", 4, "0+4 5+1 7+3 11+4 =10");
        set("dddd dddd a b c dddd", 4, "0+4 5+4 10+1 12+3 16+4 =10");
        set("a b c dddd a b c dddd", 4, "0+1 2+3 6+4 11+1 13+3 17+4 =20");
        set("a b a b", 4, "0+3 4+3 =1");
        set("aaa b aaa b aaa", 6, "0+5 6+5 12+3 =2");
        set("aa b aa b aa", 5, "0+4 5+4 10+2 =2");
    }

    private static void written(CaptionLines c, int caption, String text, String want) {
        Due.text(c, caption, 0, text);
        c.fingers(caption, 0);
        DUE.answers(want, "\"" + text + "\" as cells", () -> Due.cells(c));
    }

    private static void cells() {
        DUE.sentence(TERMS, "CELLS: each letter is a cell 1 .. 26, \" \" is 0, \".\" is 27");
        CaptionLines c = new CaptionLines();
        written(c, 0, "a", "1");
        written(c, 1, "z", "26");
        written(c, 2, "a. z.", "1 27 0 26 27");
        written(c, 3, "abcdefghijklm nopqrstuvwxyz.",
                "1 2 3 4 5 6 7 8 9 10 11 12 13 0 14 15 16 17 18 19 20 21 22 23 24 25 26 27");
    }

    private static void contractions() {
        DUE.sentence(TERMS, "CONTRACTIONS are rows of 2 .. 5 letters");
        for (String row : new String[] {"", "a", "abcdef", "a.", "a b"}) {
            DUE.keepsAfter(x -> Due.retype(x, row), Due.STATE, "\"" + row + "\"", x -> x.contract(28));
        }
        CaptionLines c = new CaptionLines();
        for (int length = 2; length <= 5; length++) {
            int cell = 28 + length;
            String row = "abcde".substring(5 - length);
            DUE.answers(true, row, () -> Due.contract(c, row, cell));
        }
        written(c, 0, "de cde bcde abcde", "30 0 31 0 32 0 33");
        DUE.sentence(TERMS, "each with a cell of its own 28 .. 63");
        CaptionLines all = new CaptionLines();
        for (int cell = 28; cell <= 63; cell++) {
            int of = cell;
            DUE.answers(true, "cell " + of, () -> Due.contractTwo(all, of));
            DUE.answers(false, "cell " + of + " once more", () -> Due.contract(all, "zz", of));
            all.clear();
        }
        written(all, 0, "qaqf vavf.", "28 33 0 58 63 27");
        DUE.keeps(Due.ARGUMENT, "cell 27", x -> x.contract(27));
        DUE.keeps(Due.ARGUMENT, "cell 64", x -> x.contract(64));
    }

    private static void longestFirst() {
        DUE.sentence(TERMS, "A text as cells: from the beginning on");
        CaptionLines doubles = new CaptionLines();
        Due.contract(doubles, "aa", 40);
        written(doubles, 0, "aaa aaaaa", "40 1 0 40 40 1");
        CaptionLines spoilt = new CaptionLines();
        Due.contract(spoilt, "bcdef", 28);
        Due.contract(spoilt, "ab", 29);
        written(spoilt, 0, "abcdef", "29 3 4 5 6");
        DUE.sentence(TERMS, "at each place the longest contraction that stands there");
        CaptionLines c = new CaptionLines();
        Due.contract(c, "ab", 63);
        Due.contract(c, "abcde", 28);
        Due.contract(c, "abcd", 45);
        Due.contract(c, "cde", 30);
        written(c, 0, "abcde", "28");
        written(c, 1, "abcd", "45");
        written(c, 2, "abc", "63 3");
        written(c, 3, "ab", "63");
        written(c, 4, "aabcdeab.", "1 28 63 27");
        written(c, 5, "abcdab cde", "45 63 0 30");
        longestWhateverItsCell();
        DUE.sentence(TERMS, "if there is one, else the sign's own");
        written(c, 6, "a b cd. e", "1 0 2 0 3 4 27 0 5");
        written(c, 7, "cdecd a bcde", "30 3 4 0 1 0 2 30");
        written(c, 8, "ba. ab", "2 1 27 0 63");
    }

    /** The longest neither by the lowest cell, nor by which one was first. */
    private static void longestWhateverItsCell() {
        CaptionLines last = new CaptionLines();
        Due.contract(last, "ab", 28);
        Due.contract(last, "abcde", 63);
        written(last, 0, "abcde ab", "63 0 28");
        CaptionLines first = new CaptionLines();
        Due.contract(first, "abc", 63);
        Due.contract(first, "ab", 28);
        written(first, 0, "abcab", "63 28");
        CaptionLines lower = new CaptionLines();
        Due.contract(lower, "ab", 63);
        Due.contract(lower, "abc", 28);
        written(lower, 0, "abcab", "28 63");
    }

    private static void zones() {
        DUE.sentence(TERMS, "ZONES of sound are 0 .. 15");
        CaptionLines c = new CaptionLines();
        for (int n = 0; n < 16; n++) {
            int of = n;
            DUE.answers(of, "zone " + of, () -> c.zone(0, of * 2 - 16, 1));
        }
        DUE.answers(Due.STATE, "zone 16", () -> c.zone(0, 16, 1));
        DUE.sentence(TERMS, "rings with a middle (x, y of -10000 .. 10000)");
        for (int edge : new int[] {-10000, 10000}) {
            int beyond = edge + edge / 10000;
            DUE.answers(0, "x " + edge, () -> new CaptionLines().zone(edge, 0, 1));
            DUE.answers(0, "y " + edge, () -> new CaptionLines().zone(0, edge, 1));
            DUE.keeps(Due.ARGUMENT, "x " + beyond, x -> x.zone(beyond, 0, 1));
            DUE.keeps(Due.ARGUMENT, "y " + beyond, x -> x.zone(0, beyond, 1));
            DUE.keeps(Due.ARGUMENT, "a point's x " + beyond, x -> x.heard(beyond, 0));
            DUE.keeps(Due.ARGUMENT, "a point's y " + beyond, x -> x.heard(0, beyond));
        }
        DUE.sentence(TERMS, "and a radius 1 .. 10000");
        DUE.answers(0, "radius 1", () -> new CaptionLines().zone(0, 0, 1));
        DUE.answers(0, "radius 10000", () -> new CaptionLines().zone(0, 0, 10000));
        DUE.keeps(Due.ARGUMENT, "radius 0", x -> x.zone(500, 0, 0));
        DUE.keeps(Due.ARGUMENT, "radius 10001", x -> x.zone(500, 0, 10001));
        DUE.sentence(TERMS, "that have no point in common but may touch");
        CaptionLines near = new CaptionLines();
        near.zone(0, 0, 5);
        DUE.answers(-1, "points in common", () -> near.zone(9, 0, 5));
        DUE.answers(-1, "all points in common", () -> near.zone(1, 0, 1));
        DUE.answers(1, "a touch", () -> near.zone(10, 0, 5));
        DUE.answers(2, "a slanting touch", () -> near.zone(-6, -8, 5));
    }

    private static void rooms() {
        DUE.sentence(TERMS, "ROOMS are 0 .. 23");
        for (int room : new int[] {0, 23}) {
            DUE.answers(true, "a way of room " + room, () -> new CaptionLines().way(room, 12, true));
            DUE.answers(true, "a way to room " + room, () -> new CaptionLines().way(12, room, true));
            DUE.answers(room, "an arrow of room " + room, () -> new CaptionLines().arrow(room, room));
        }
        for (int room : new int[] {-1, 24}) {
            DUE.keeps(Due.INDEX, "a way of room " + room, x -> x.way(room, 12, true));
            DUE.keeps(Due.INDEX, "a way to room " + room, x -> x.way(12, room, true));
            DUE.keeps(Due.INDEX, "an arrow of room " + room, x -> x.arrow(room, 12));
            DUE.keeps(Due.INDEX, "an arrow to room " + room, x -> x.arrow(12, room));
        }
        DUE.sentence(TERMS, "some joined by ways (both ways)");
        CaptionLines c = new CaptionLines();
        c.way(23, 0, true);
        DUE.answers(0, "there", () -> c.arrow(23, 0));
        DUE.answers(23, "and back", () -> c.arrow(0, 23));
        DUE.answers(1, "one way", () -> c.count(4));
        c.way(0, 23, false);
        DUE.answers(-1, "not there", () -> c.arrow(23, 0));
        DUE.answers(-1, "and not back", () -> c.arrow(0, 23));
    }

    private static void exceptionsInOrder() {
        DUE.sentence(TERMS, "IndexOutOfBoundsException: there is no such caption, language, version, line, cell, room, place");
        DUE.keeps(Due.INDEX, "no such caption", x -> x.level(10, 0));
        DUE.keeps(Due.INDEX, "no such language", x -> x.level(0, 5));
        DUE.keeps(Due.INDEX, "no such version", x -> x.sign(0, 1, 2, 0));
        DUE.keeps(Due.INDEX, "no such line", x -> x.line(2, 0));
        DUE.keeps(Due.INDEX, "no such cell", x -> x.cell(8));
        DUE.keeps(Due.INDEX, "no such room", x -> x.arrow(0, 24));
        DUE.keeps(Due.INDEX, "no such place", x -> x.sign(0, 1, 1, 8));
        DUE.keeps(Due.INDEX, "no such caption, nor such a width", x -> x.lines(10, 0, 61));
        DUE.keeps(Due.INDEX, "no such language, nor such a width", x -> x.lines(0, 5, 0));
        DUE.keeps(Due.INDEX, "no such room, twice the same", x -> x.way(24, 24, true));
        DUE.keepsAfter(CaptionLines::clear, Due.INDEX, "no such caption, nor a text", x -> x.text(10, 0));
        DUE.sentence(TERMS, "IllegalStateException, then IllegalArgumentException, as told");
        Consumer<CaptionLines> fillPad = x -> Due.type(x, "x".repeat(77));
        Consumer<CaptionLines> fillZones = x -> {
            for (int n = 2; n < 16; n++) {
                x.zone(n * 10, 0, 5);
            }
        };
        DUE.keepsAfter(fillPad, Due.STATE, "a full pad, and no sign", x -> x.unit('A'));
        DUE.keepsAfter(fillPad, Due.STATE, "no row of letters, nor a cell for it", x -> x.contract(64));
        DUE.keepsAfter(fillZones, Due.STATE, "16 zones, and no middle", x -> x.zone(10001, 0, 1));
        DUE.keepsAfter(fillZones, Due.STATE, "16 zones, and no radius", x -> x.zone(0, 0, 0));
        DUE.keeps(Due.ARGUMENT, "no cell", x -> x.contract(64));
        DUE.keeps(Due.ARGUMENT, "no radius", x -> x.zone(0, 0, 0));
    }

    /** Refused calls of each kind behind one another: not even all of them together change a thing. */
    private static void nothingChanges() {
        DUE.sentence(TERMS, "Such a call changes nothing.");
        Due.On[] refused = {x -> x.unit('A'), x -> x.text(10, 0), x -> x.text(0, 5), x -> x.falls(5, 0),
            x -> x.falls(0, 5), x -> x.falls(0, -2), x -> x.shown(10, 0), x -> x.shown(0, 5), x -> x.sign(0, 0, 1, 0),
            x -> x.sign(0, 0, 0, 11), x -> x.lines(10, 0, 6), x -> x.lines(0, 5, 6), x -> x.lines(0, 0, 0),
            x -> x.lines(0, 0, 61), x -> x.line(2, 0), x -> x.line(0, 2), x -> x.level(10, 0), x -> x.contract(27),
            x -> x.contract(64), x -> x.fingers(10, 0), x -> x.fingers(0, 5), x -> x.cell(8), x -> x.cell(-1),
            x -> x.zone(10001, 0, 1), x -> x.zone(0, -10001, 1), x -> x.zone(0, 0, 0), x -> x.zone(0, 0, 10001),
            x -> x.heard(10001, 0), x -> x.way(0, 24, true), x -> x.way(-1, 0, true), x -> x.way(7, 7, true),
            x -> x.arrow(0, 24), x -> x.arrow(-1, 0), x -> x.count(6)};
        DUE.keeps(refused.length, "refused calls", x -> {
            int thrown = 0;
            for (Due.On call : refused) {
                thrown += Due.said(() -> call.answer(x)).startsWith("throws") ? 1 : 0;
            }
            return thrown;
        });
    }
}
