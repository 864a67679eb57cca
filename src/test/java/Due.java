import java.util.function.Consumer;
import java.util.function.ToLongFunction;

/** What the tests share: it prints each answer that is not the one that is due, and ends with 1 if there was one. */
final class Due {
    interface Call {
        Object answer();
    }

    private int checked;
    private int wrong;

    void answers(Object want, String call, Call made) {
        String got = said(made);
        checked++;
        if (!got.equals(String.valueOf(want))) {
            wrong++;
            System.out.println(call + " answered " + got + ", due is " + want);
        }
    }

    /** The exception is due, and an object with a bit of everything is after it as if it had not been called. */
    void refuses(Class<? extends RuntimeException> want, String call, ToLongFunction<CaptionLines> made) {
        refusesAfter(c -> { }, want, call, made);
    }

    /** The same behind some more calls that bring the object into the state that is refused. */
    void refusesAfter(Consumer<CaptionLines> before, Class<? extends RuntimeException> want, String call,
            ToLongFunction<CaptionLines> made) {
        CaptionLines called = aBitOfEverything();
        CaptionLines twin = aBitOfEverything();
        before.accept(called);
        before.accept(twin);
        answers("throws." + want.getSimpleName(), call, () -> made.applyAsLong(called));
        answers(probe(twin), call + ", then a look at all", () -> probe(called));
    }

    /** A call that answers and still may change nothing. */
    void answersAndKeeps(Consumer<CaptionLines> before, Object want, String call, Function made) {
        CaptionLines called = aBitOfEverything();
        CaptionLines twin = aBitOfEverything();
        before.accept(called);
        before.accept(twin);
        answers(want, call, () -> made.of(called));
        answers(probe(twin), call + ", then a look at all", () -> probe(called));
    }

    interface Function {
        Object of(CaptionLines c);
    }

    void end() {
        System.out.println(checked + " answers looked at, " + wrong + " not as due");
        if (wrong != 0 || checked == 0) {
            System.exit(1);
        }
    }

    /** An answer as a text. The class must be the very one: what the machine throws is often one below it. */
    static String said(Call made) {
        try {
            return String.valueOf(made.answer());
        } catch (RuntimeException e) {
            return "throws." + e.getClass().getSimpleName();
        }
    }

    static CaptionLines type(CaptionLines c, String signs) {
        for (int i = 0; i < signs.length(); i++) {
            c.unit(signs.charAt(i));
        }
        return c;
    }

    static int text(CaptionLines c, int caption, int language, String signs) {
        return type(c, signs).text(caption, language);
    }

    static String version(CaptionLines c, int caption, int language, int version) {
        StringBuilder signs = new StringBuilder();
        int length = c.sign(caption, language, version, -1);
        for (int i = 0; i < length; i++) {
            signs.append((char) c.sign(caption, language, version, i));
        }
        return signs.toString();
    }

    static String cells(CaptionLines c) {
        StringBuilder cells = new StringBuilder();
        for (int k = 0; k < c.count(5); k++) {
            cells.append(k == 0 ? "" : " ").append(c.cell(k));
        }
        return cells.toString();
    }

    /** The lines' begins and signs, and the sum of squares. */
    static String lines(CaptionLines c, int lines) {
        StringBuilder all = new StringBuilder();
        for (int k = 0; k < lines; k++) {
            all.append(c.line(k, 0)).append('+').append(c.line(k, 1)).append(' ');
        }
        return all.append('=').append(c.line(-1, 0)).toString();
    }

    /** Fewer than 80 calls. */
    static CaptionLines aBitOfEverything() {
        CaptionLines c = new CaptionLines();
        type(c, "the").contract(29);
        type(c, "he").contract(30);
        text(c, 0, 0, "the end. he");
        text(c, 0, 1, "when");
        text(c, 0, 1, "then she");
        c.falls(2, 1);
        c.falls(3, 2);
        c.lines(0, 3, 6);
        c.fingers(0, 0);
        c.zone(0, 0, 5);
        c.zone(10, 0, 5);
        c.way(0, 1, true);
        c.way(1, 2, true);
        c.way(2, 3, true);
        c.way(0, 4, true);
        return type(c, "abc");
    }

    /** All that can be seen of such an object, the pad last, since looking at it empties it: under 400 calls. */
    static String probe(CaptionLines c) {
        StringBuilder seen = new StringBuilder();
        for (int what = 0; what < 6; what++) {
            int of = what;
            seen.append(said(() -> c.count(of))).append(' ');
        }
        for (int k = -1; k < 4; k++) {
            int of = k;
            seen.append(said(() -> c.line(of, 0))).append('+').append(said(() -> c.line(of, 1))).append(' ');
        }
        seen.append(cells(c)).append(' ');
        for (int caption = 0; caption < 3; caption++) {
            for (int language = 0; language < 5; language++) {
                seen.append(c.shown(caption, language)).append(',').append(c.level(caption, language)).append(' ');
            }
        }
        for (int version = 0; version < 4; version++) {
            int of = version;
            seen.append(said(() -> c.sign(0, 1, of, -1))).append(' ').append(said(() -> c.sign(0, 0, of, 0)));
        }
        for (int x = -6; x < 30; x += 4) {
            seen.append(c.heard(x, 0)).append(' ');
        }
        for (int room = 0; room < 5; room++) {
            seen.append(c.arrow(room, 0)).append(' ').append(c.arrow(0, room)).append(' ');
        }
        int version = c.text(9, 4);
        seen.append(version).append(' ').append(version == 0 ? version(c, 9, 4, 0) : "");
        c.fingers(0, 1);
        return seen.append(' ').append(cells(c)).toString();
    }
}
