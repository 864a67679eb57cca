/** Promises 1 to 3: a new object, unit, clear. */
public final class PadTest {
    private static final Due DUE = new Due();
    private static final String NEW = "Promise 1: A new object";
    private static final String UNIT = "Promise 2: unit";
    private static final String CLEAR = "Promise 3: clear";

    public static void main(String[] args) {
        noTexts();
        noContractions();
        noZones();
        noWays();
        nothingElse();
        twoObjectsAreApart();
        signBehindThePad();
        howManyItHas();
        fullPad();
        noSign();
        emptied();
        howManyItHad();
        DUE.end();
    }

    private static void noTexts() {
        DUE.sentence(NEW, "No texts");
        CaptionLines c = new CaptionLines();
        DUE.answers(0, "count(1)", () -> c.count(1));
        for (int caption = 0; caption < 10; caption++) {
            for (int language = 0; language < 5; language++) {
                int a = caption;
                int b = language;
                String place = "(" + a + ", " + b + ")";
                DUE.answers(-1, "shown" + place, () -> c.shown(a, b));
                DUE.answers(-1, "lines" + place, () -> c.lines(a, b, 60));
                DUE.answers(-1, "level" + place, () -> c.level(a, b));
                DUE.answers(-1, "fingers" + place, () -> c.fingers(a, b));
                DUE.answers(Due.INDEX, "sign" + place + " of version 0", () -> c.sign(a, b, 0, -1));
            }
        }
    }

    private static void noContractions() {
        DUE.sentence(NEW, "contractions");
        CaptionLines c = new CaptionLines();
        DUE.answers(0, "count(2)", () -> c.count(2));
        Due.text(c, 0, 0, "there");
        DUE.answers(5, "fingers of \"there\"", () -> c.fingers(0, 0));
        for (int cell = 28; cell <= 63; cell++) {
            int free = cell;
            DUE.answers(true, "contract(" + free + ")", () -> Due.contractTwo(c, free));
        }
    }

    private static void noZones() {
        DUE.sentence(NEW, "zones");
        CaptionLines c = new CaptionLines();
        DUE.answers(0, "count(3)", () -> c.count(3));
        for (int x = -10000; x <= 10000; x += 2500) {
            for (int y = -10000; y <= 10000; y += 2500) {
                int px = x;
                int py = y;
                DUE.answers(-1, "heard(" + x + ", " + y + ")", () -> c.heard(px, py));
            }
        }
        DUE.answers(0, "the first zone", () -> c.zone(0, 0, 10000));
    }

    private static void noWays() {
        DUE.sentence(NEW, "ways");
        CaptionLines c = new CaptionLines();
        DUE.answers(0, "count(4)", () -> c.count(4));
        CaptionLines ahead = new CaptionLines();
        CaptionLines back = new CaptionLines();
        for (int a = 0; a < 24; a++) {
            for (int b = 0; b < a; b++) {
                int high = a;
                int low = b;
                DUE.answers(false, "way(" + low + ", " + high + ", false)", () -> c.way(low, high, false));
                DUE.answers(-1, "arrow(" + low + ", " + high + ")", () -> ahead.arrow(low, high));
                DUE.answers(-1, "arrow(" + high + ", " + low + ")", () -> back.arrow(high, low));
            }
        }
    }

    private static void nothingElse() {
        DUE.sentence(NEW, "CaptionLines()");
        CaptionLines c = new CaptionLines();
        DUE.answers(-1, "NONE", () -> CaptionLines.NONE);
        DUE.answers(0, "signs of the pad", () -> c.count(0));
        DUE.answers(0, "clear()", c::clear);
        DUE.answers(-1, "text of the empty pad", () -> c.text(0, 0));
        DUE.answers(0, "latest cells", () -> c.count(5));
        DUE.answers(Due.INDEX, "cell(0)", () -> c.cell(0));
        DUE.answers(Due.STATE, "back()", c::back);
        DUE.answers(Due.INDEX, "line(0, 0)", () -> c.line(0, 0));
        DUE.answers(Due.INDEX, "line(-1, 0)", () -> c.line(-1, 0));
        for (int language = 0; language < 5; language++) {
            Due.text(c, language, language, "x");
            for (int other = 0; other < 5; other++) {
                int a = language;
                int b = other;
                DUE.answers(a == b ? a : -1, "no fallback: shown(" + a + ", " + b + ")", () -> c.shown(a, b));
            }
        }
    }

    private static void twoObjectsAreApart() {
        DUE.sentence(NEW, "A new object");
        DUE.looksAlike("one made ahead of another one's calls", CaptionLines::new, () -> {
            CaptionLines made = new CaptionLines();
            Due.aBitOfEverything();
            return made;
        });
    }

    private static void signBehindThePad() {
        DUE.sentence(UNIT, "A sign behind the pad");
        CaptionLines c = new CaptionLines();
        String signs = "abcdefghijklmnopqrstuvwxyz. zyx";
        DUE.answers(0, "text of all signs", () -> Due.text(c, 0, 0, signs));
        DUE.answers(signs, "all signs in their order", () -> Due.version(c, 0, 0, 0));
    }

    private static void howManyItHas() {
        DUE.sentence(UNIT, "how many it has");
        CaptionLines c = new CaptionLines();
        String signs = "abcdefghijklmnopqrstuvwxyz .";
        for (int n = 0; n < 80; n++) {
            char sign = signs.charAt(n % signs.length());
            DUE.answers(n + 1, "unit number " + (n + 1), () -> c.unit(sign));
        }
    }

    private static void fullPad() {
        DUE.sentence(UNIT, "IllegalStateException: there are 80.");
        CaptionLines c = Due.type(new CaptionLines(), "x".repeat(79));
        DUE.answers(80, "unit number 80", () -> c.unit('x'));
        DUE.answers(Due.STATE, "unit number 81", () -> c.unit('x'));
        DUE.answers(Due.STATE, "once more", () -> c.unit(' '));
        DUE.answers(Due.STATE, "no sign, either", () -> c.unit('A'));
        DUE.answers(80, "signs of the pad", () -> c.count(0));
        DUE.answers(0, "text of it", () -> c.text(0, 0));
        DUE.answers("x".repeat(80), "its signs", () -> Due.version(c, 0, 0, 0));
        DUE.answers(1, "unit behind that", () -> c.unit('x'));
        for (int sign : new int[] {'y', ' ', '.', 'A', -1, Integer.MAX_VALUE}) {
            DUE.keepsAfter(x -> Due.type(x, "z".repeat(77)), Due.STATE, "unit(" + sign + ") of a full pad",
                    x -> x.unit(sign));
        }
    }

    private static void noSign() {
        DUE.sentence(UNIT, "IllegalArgumentException: it is none.");
        for (int sign : new int[] {'a', 'z', ' ', '.'}) {
            DUE.answers(1, "unit(" + sign + ")", () -> new CaptionLines().unit(sign));
        }
        int[] beside = {'a' - 1, 'z' + 1, ' ' - 1, ' ' + 1, '.' - 1, '.' + 1, 'A', 'Z', '0', 0, -1, 1, 26, 27, 256 + 'a',
            65536 + 'a', -'a', Integer.MIN_VALUE, Integer.MAX_VALUE};
        for (int sign : beside) {
            DUE.keeps(Due.ARGUMENT, "unit(" + sign + ")", x -> x.unit(sign));
        }
        CaptionLines c = Due.type(new CaptionLines(), "x".repeat(79));
        for (int sign = -300; sign < 1000; sign++) {
            int of = sign;
            if ("abcdefghijklmnopqrstuvwxyz .".indexOf(sign) < 0) {
                DUE.answers(Due.ARGUMENT, "unit(" + sign + ")", () -> new CaptionLines().unit(of));
            }
        }
        DUE.answers(Due.ARGUMENT, "unit('A') as number 80", () -> c.unit('A'));
        DUE.answers(80, "unit('a') as number 80", () -> c.unit('a'));
    }

    private static void emptied() {
        DUE.sentence(CLEAR, "The pad is empty");
        for (String row : new String[] {"", "x", " .", "x".repeat(79), "x".repeat(80)}) {
            CaptionLines c = Due.type(new CaptionLines(), row);
            c.clear();
            DUE.answers(0, "signs of the pad", () -> c.count(0));
            DUE.answers(-1, "text of it", () -> c.text(0, 0));
            DUE.answers(1, "unit behind it", () -> c.unit('y'));
            DUE.answers(0, "text of that", () -> c.text(0, 0));
            DUE.answers("y", "nothing of what was cleared", () -> Due.version(c, 0, 0, 0));
        }
        DUE.keeps(3, "clear(), and the same signs again", x -> {
            int had = x.clear();
            Due.type(x, "abc");
            return had;
        });
    }

    private static void howManyItHad() {
        DUE.sentence(CLEAR, "how many signs it had");
        for (int length : new int[] {0, 1, 2, 79, 80}) {
            CaptionLines c = Due.type(new CaptionLines(), "x".repeat(length));
            DUE.answers(length, "clear() of " + length, c::clear);
            DUE.answers(0, "clear() again", c::clear);
        }
        CaptionLines refused = Due.type(new CaptionLines(), "x".repeat(80));
        DUE.answers(Due.STATE, "unit number 81", () -> refused.unit('x'));
        DUE.answers(80, "clear() behind a refused sign", refused::clear);
    }
}
