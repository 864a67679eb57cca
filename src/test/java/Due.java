import java.util.function.Consumer;
import java.util.function.Supplier;

/** What the tests share: it prints each answer that is not the one that is due, and ends with 1 if there was one. */
final class Due {
    static final String INDEX = "throws.IndexOutOfBoundsException";
    static final String STATE = "throws.IllegalStateException";
    static final String ARGUMENT = "throws.IllegalArgumentException";

    interface Call {
        Object answer();
    }

    interface On {
        Object answer(CaptionLines c);
    }

    interface OnCaption {
        Object answer(CaptionLines c, int caption, int language);
    }

    private String sentence = "";
    private int sentences;
    private int checkedOfSentence;
    private int checked;
    private int wrong;

    /** Where in the document, and in its own words, what the answers behind this call are due to. */
    void sentence(String where, String words) {
        endOfSentence();
        sentence = where + ", \"" + words + "\": ";
        sentences++;
        checkedOfSentence = 0;
    }

    private void endOfSentence() {
        if (sentences > 0 && checkedOfSentence == 0) {
            wrong++;
            System.out.println(sentence + "nothing was looked at");
        }
    }

    void answers(Object want, String call, Call made) {
        String got = said(made);
        checked++;
        checkedOfSentence++;
        if (!got.equals(String.valueOf(want))) {
            wrong++;
            System.out.println(sentence + call + " answered " + got + ", due is " + want);
        }
    }

    /** The answer, often an exception, is due, and an object with a bit of everything is after it as it was. */
    void keeps(Object want, String call, On made) {
        keepsAfter(c -> { }, want, call, made);
    }

    /** The same behind some more calls that bring the object into the state that matters. */
    void keepsAfter(Consumer<CaptionLines> before, Object want, String call, On made) {
        answers(want, call, () -> made.answer(aBitOfEverythingAnd(before)));
        looksAlike(call, () -> aBitOfEverythingAnd(before), () -> {
            CaptionLines c = aBitOfEverythingAnd(before);
            said(() -> made.answer(c));
            return c;
        });
    }

    /**
     * All that can be seen of objects is the same whether the call was made on them or not. Looking changes them,
     * and what they answer behind their 512th call is free: so each look has one of its own, and under 300 calls.
     */
    void looksAlike(String call, Supplier<CaptionLines> untouched, Supplier<CaptionLines> touched) {
        On[] looks = {Due::lookAtRows, Due::lookAtVersions, Due::lookAtFallbacks, Due::lookAtContractions,
            Due::lookAtZones, Due::lookAtWays, Due::lookAtWaysBack};
        for (On look : looks) {
            answers(look.answer(untouched.get()), call + ", then a look", () -> look.answer(touched.get()));
        }
    }

    /** Captions 0 and 9 and languages 0 and 4 are there; those beside them are refused, and nothing changes. */
    void takesCaptionAndLanguage(String name, OnCaption made) {
        for (int caption : new int[] {0, 9}) {
            for (int language : new int[] {0, 4}) {
                CaptionLines c = new CaptionLines();
                text(c, caption, language, "x");
                type(c, "y");
                answers(false, name + " refuses caption " + caption + ", language " + language,
                        () -> said(() -> made.answer(c, caption, language)).startsWith("throws"));
            }
        }
        for (int caption : new int[] {-1, 10, Integer.MIN_VALUE, Integer.MAX_VALUE}) {
            keeps(INDEX, name + " of caption " + caption, x -> made.answer(x, caption, 0));
            keeps(INDEX, name + " of caption " + caption + ", language 4", x -> made.answer(x, caption, 4));
        }
        for (int language : new int[] {-1, 5, Integer.MIN_VALUE, Integer.MAX_VALUE}) {
            keeps(INDEX, name + " of language " + language, x -> made.answer(x, 0, language));
            keeps(INDEX, name + " of caption 9, language " + language, x -> made.answer(x, 9, language));
        }
        keeps(INDEX, name + " of neither", x -> made.answer(x, 10, 5));
        keeps(INDEX, name + " of neither, below", x -> made.answer(x, -1, -1));
    }

    void end() {
        endOfSentence();
        System.out.println(checked + " answers to " + sentences + " sentences looked at, " + wrong + " not as due");
        if (wrong != 0 || checked == 0) {
            System.exit(1);
        }
    }

    /** An answer as a text. The class must be the very one: what the machine throws is often one below it. */
    static String said(Call made) {
        try {
            return String.valueOf(made.answer());
        } catch (RuntimeException e) {
            return "throws." + e.getClass().getSimpleName();
        }
    }

    static CaptionLines type(CaptionLines c, String signs) {
        for (int i = 0; i < signs.length(); i++) {
            c.unit(signs.charAt(i));
        }
        return c;
    }

    static CaptionLines retype(CaptionLines c, String signs) {
        c.clear();
        return type(c, signs);
    }

    static int text(CaptionLines c, int caption, int language, String signs) {
        return type(c, signs).text(caption, language);
    }

    static boolean contract(CaptionLines c, String letters, int cell) {
        return type(c, letters).contract(cell);
    }

    /** Rows of two letters, another one for each cell. */
    static boolean contractTwo(CaptionLines c, int cell) {
        int n = cell - 28;
        return contract(c, "" + (char) ('q' + n / 6) + (char) ('a' + n % 6), cell);
    }

    static String version(CaptionLines c, int caption, int language, int version) {
        StringBuilder signs = new StringBuilder();
        int length = c.sign(caption, language, version, -1);
        for (int i = 0; i < length; i++) {
            signs.append((char) c.sign(caption, language, version, i));
        }
        return signs.toString();
    }

    static String cells(CaptionLines c) {
        StringBuilder cells = new StringBuilder();
        int count = c.count(5);
        for (int k = 0; k < count; k++) {
            cells.append(k == 0 ? "" : " ").append(c.cell(k));
        }
        return cells.toString();
    }

    /** The lines' begins and signs, and the sum of squares. */
    static String lines(CaptionLines c, int lines) {
        StringBuilder all = new StringBuilder();
        for (int k = 0; k < lines; k++) {
            all.append(c.line(k, 0)).append('+').append(c.line(k, 1)).append(' ');
        }
        return all.append('=').append(c.line(-1, 0)).toString();
    }

    /** 46 calls. */
    static CaptionLines aBitOfEverything() {
        CaptionLines c = new CaptionLines();
        contract(c, "the", 29);
        contract(c, "he", 30);
        text(c, 0, 0, "the end. he");
        text(c, 0, 1, "when");
        text(c, 0, 1, "then she");
        c.falls(2, 1);
        c.falls(3, 2);
        c.lines(0, 3, 6);
        c.fingers(0, 0);
        c.zone(0, 0, 5);
        c.zone(10, 0, 5);
        c.way(0, 1, true);
        c.way(1, 2, true);
        c.way(2, 3, true);
        c.way(0, 4, true);
        return type(c, "abc");
    }

    static CaptionLines aBitOfEverythingAnd(Consumer<CaptionLines> more) {
        CaptionLines c = aBitOfEverything();
        more.accept(c);
        return c;
    }

    /** Counts, lines, cells and the pad, which can be seen once it is a text, behind an "a" if it must be. */
    private static String lookAtRows(CaptionLines c) {
        StringBuilder seen = new StringBuilder("rows: ");
        for (int what = 0; what < 6; what++) {
            seen.append(c.count(what)).append(' ');
        }
        String begin = "";
        for (int k = -1; k <= 40 && !begin.equals(INDEX); k++) {
            int of = k;
            begin = said(() -> c.line(of, 0));
            seen.append(begin).append('+').append(said(() -> c.line(of, 1))).append(' ');
        }
        seen.append(cells(c)).append(' ');
        int version = c.text(9, 4);
        if (version < 0) {
            seen.append(version).append(said(() -> c.unit('a'))).append(' ');
            version = c.text(9, 4);
        }
        return seen.append(version).append(version < 0 ? "" : version(c, 9, 4, version)).toString();
    }

    private static String lookAtVersions(CaptionLines c) {
        StringBuilder seen = new StringBuilder("versions: ");
        for (int caption = 0; caption < 10; caption++) {
            for (int language = 0; language < 5; language++) {
                int a = caption;
                int b = language;
                String signs = "";
                for (int version = 0; version < 4 && !signs.equals(INDEX); version++) {
                    int of = version;
                    signs = said(() -> version(c, a, b, of));
                    seen.append(signs.equals(INDEX) ? "" : signs).append('/');
                }
            }
        }
        return seen.toString();
    }

    /** A caption in each language alone: where it is shown tells which languages reach that one. */
    private static String lookAtFallbacks(CaptionLines c) {
        StringBuilder seen = new StringBuilder("fallbacks: ");
        for (int language = 0; language < 5; language++) {
            int caption = 4 + language;
            retype(c, "x").text(caption, language);
            for (int from = 0; from < 5; from++) {
                seen.append(c.shown(caption, from)).append(' ');
            }
        }
        return seen.toString();
    }

    private static String lookAtContractions(CaptionLines c) {
        c.clear();
        text(c, 9, 4, "then he. abc ab cab");
        c.fingers(9, 4);
        StringBuilder seen = new StringBuilder("contractions: ").append(cells(c));
        for (int cell = 28; cell <= 63; cell++) {
            c.clear();
            seen.append(contractTwo(c, cell) ? " free" : " taken");
        }
        return seen.toString();
    }

    private static String lookAtZones(CaptionLines c) {
        StringBuilder seen = new StringBuilder("zones: ");
        for (int x = -12; x <= 30; x += 3) {
            for (int y = -9; y <= 9; y += 3) {
                seen.append(c.heard(x, y)).append(' ');
            }
        }
        return seen.append(said(() -> c.zone(0, 5000, 1))).toString();
    }

    private static String lookAtWays(CaptionLines c) {
        StringBuilder seen = new StringBuilder("ways: ");
        for (int a = 0; a < 24; a++) {
            for (int b = a + 1; b < 24; b++) {
                seen.append(c.way(a, b, true) ? '-' : '+');
            }
        }
        return seen.toString();
    }

    private static String lookAtWaysBack(CaptionLines c) {
        StringBuilder seen = new StringBuilder("ways back: ");
        for (int a = 0; a < 24; a++) {
            for (int b = a + 1; b < 24; b++) {
                seen.append(c.way(b, a, true) ? '-' : '+');
            }
        }
        return seen.toString();
    }
}
