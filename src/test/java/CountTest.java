/** Promise 19: count. */
public final class CountTest {
    private static final Due DUE = new Due();

    public static void main(String[] args) {
        CaptionLines c = Due.aBitOfEverything();
        DUE.answers(3, "signs of the pad", () -> c.count(0));
        DUE.answers(3, "versions of all", () -> c.count(1));
        DUE.answers(2, "contractions", () -> c.count(2));
        DUE.answers(2, "zones", () -> c.count(3));
        DUE.answers(4, "ways", () -> c.count(4));
        DUE.answers(8, "latest cells", () -> c.count(5));
        c.text(9, 4);
        DUE.answers(0, "signs behind text", () -> c.count(0));
        DUE.answers(4, "versions behind text", () -> c.count(1));
        c.fingers(0, 1);
        DUE.answers(5, "latest cells behind fingers", () -> c.count(5));
        c.fingers(5, 0);
        DUE.answers(5, "latest cells behind nothing shown", () -> c.count(5));
        c.back();
        DUE.answers(8, "signs behind back", () -> c.count(0));
        c.way(0, 1, false);
        DUE.answers(3, "ways behind one less", () -> c.count(4));
        for (int what : new int[] {-1, 6, 7, Integer.MIN_VALUE, Integer.MAX_VALUE}) {
            DUE.refuses(IndexOutOfBoundsException.class, "count(" + what + ")", x -> x.count(what));
        }
        for (int what = 0; what < 6; what++) {
            int of = what;
            int want = Due.aBitOfEverything().count(of);
            DUE.answersAndKeeps(x -> { }, want, "count(" + of + ")", x -> x.count(of));
        }
        DUE.end();
    }
}
