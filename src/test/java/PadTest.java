/** Promises 1 to 3: a new object, unit, clear. */
public final class PadTest {
    private static final Due DUE = new Due();

    public static void main(String[] args) {
        newObject();
        unit();
        clear();
        DUE.end();
    }

    private static void newObject() {
        CaptionLines c = new CaptionLines();
        for (int what = 0; what < 6; what++) {
            int of = what;
            DUE.answers(0, "new: count(" + of + ")", () -> c.count(of));
        }
        for (int caption = 0; caption < 10; caption++) {
            for (int language = 0; language < 5; language++) {
                int a = caption;
                int b = language;
                DUE.answers(-1, "new: shown(" + a + ", " + b + ")", () -> c.shown(a, b));
                DUE.answers("throws.IndexOutOfBoundsException", "new: sign(" + a + ", " + b + ", 0, -1)",
                        () -> c.sign(a, b, 0, -1));
            }
        }
        DUE.answers(-1, "new: lines", () -> c.lines(0, 0, 60));
        DUE.answers(-1, "new: level", () -> c.level(0, 0));
        DUE.answers(-1, "new: fingers", () -> c.fingers(0, 0));
        DUE.answers("throws.IndexOutOfBoundsException", "new: line(-1, 0)", () -> c.line(-1, 0));
        DUE.answers("throws.IndexOutOfBoundsException", "new: line(0, 0)", () -> c.line(0, 0));
        DUE.answers("throws.IndexOutOfBoundsException", "new: cell(0)", () -> c.cell(0));
        DUE.answers("throws.IllegalStateException", "new: back()", c::back);
        DUE.answers(-1, "new: heard(0, 0)", () -> c.heard(0, 0));
        for (int to = 1; to < 24; to++) {
            int of = to;
            DUE.answers(-1, "new: arrow(0, " + of + ")", () -> c.arrow(0, of));
        }
        DUE.answers(-1, "NONE", () -> CaptionLines.NONE);
        twoObjectsAreApart();
    }

    private static void twoObjectsAreApart() {
        CaptionLines one = Due.aBitOfEverything();
        CaptionLines other = new CaptionLines();
        DUE.answers(0, "another object's versions", () -> other.count(1));
        DUE.answers(3, "the first one's versions", () -> one.count(1));
    }

    private static void unit() {
        CaptionLines c = new CaptionLines();
        int length = 0;
        for (char sign = 'a'; sign <= 'z'; sign++) {
            char of = sign;
            length++;
            DUE.answers(length, "unit(" + of + ")", () -> c.unit(of));
        }
        DUE.answers(27, "unit(space)", () -> c.unit(' '));
        DUE.answers(28, "unit(.)", () -> c.unit('.'));
        int[] none = {'a' - 1, 'z' + 1, 'A', 'Z', '0', '9', ',', '-', '/', 31, 33, 0, -1, 27, 9, 10, 256 + 'a',
            65536 + 'a', -'a', Integer.MIN_VALUE, Integer.MAX_VALUE};
        for (int sign : none) {
            DUE.refuses(IllegalArgumentException.class, "unit(" + sign + ")", x -> x.unit(sign));
        }
        for (int more = 29; more <= 80; more++) {
            DUE.answers(more, "unit number " + more, () -> c.unit('a'));
        }
        DUE.answers("throws.IllegalStateException", "unit number 81", () -> c.unit('a'));
        DUE.answers("throws.IllegalStateException", "a full pad comes ahead of a wrong sign", () -> c.unit('A'));
        DUE.answers(80, "count(0) behind that", () -> c.count(0));
        DUE.refusesAfter(x -> Due.type(x, "z".repeat(77)), IllegalStateException.class, "a full unit", x -> x.unit('a'));
        signsAreKeptInOrder();
    }

    private static void signsAreKeptInOrder() {
        CaptionLines c = new CaptionLines();
        String signs = "abcdefghijklmnopqrstuvwxyz. zyx";
        DUE.answers(0, "text of all signs", () -> Due.text(c, 0, 0, signs));
        DUE.answers(signs, "all signs", () -> Due.version(c, 0, 0, 0));
    }

    private static void clear() {
        CaptionLines c = new CaptionLines();
        DUE.answers(0, "clear() of an empty pad", c::clear);
        Due.type(c, "ab .");
        DUE.answers(4, "clear()", c::clear);
        DUE.answers(0, "count(0) behind clear()", () -> c.count(0));
        DUE.answers(0, "clear() again", c::clear);
        DUE.answers(1, "unit behind clear()", () -> c.unit('x'));
        c.text(0, 0);
        DUE.answers("x", "nothing of what was cleared", () -> Due.version(c, 0, 0, 0));
        Due.type(c, "y".repeat(80));
        DUE.answers(80, "clear() of a full pad", c::clear);
        DUE.answers(1, "unit behind that", () -> c.unit('x'));
        DUE.answersAndKeeps(x -> { }, 3, "clear() and the same again", x -> {
            int had = x.clear();
            Due.type(x, "abc");
            return had;
        });
    }
}
