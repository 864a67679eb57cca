/** Promises 17 and 18: way, arrow. */
public final class RoomsTest {
    private static final Due DUE = new Due();

    public static void main(String[] args) {
        ways();
        arrows();
        longestWay();
        lowestOfMany();
        everyRoom();
        againstDistances();
        refusals();
        DUE.end();
    }

    private static void ways() {
        CaptionLines c = new CaptionLines();
        DUE.answers(false, "no way to take away", () -> c.way(0, 23, false));
        DUE.answers(true, "a way", () -> c.way(0, 23, true));
        DUE.answers(false, "again", () -> c.way(0, 23, true));
        DUE.answers(false, "from the other side", () -> c.way(23, 0, true));
        DUE.answers(1, "ways", () -> c.count(4));
        DUE.answers(true, "away from the other side", () -> c.way(23, 0, false));
        DUE.answers(false, "again", () -> c.way(0, 23, false));
        DUE.answers(0, "ways", () -> c.count(4));
        DUE.answers(-1, "no way any more", () -> c.arrow(0, 23));
        DUE.answers(true, "and back", () -> c.way(23, 0, true));
        DUE.answers(1, "ways", () -> c.count(4));
        DUE.answers(23, "there", () -> c.arrow(0, 23));
        DUE.answers(0, "and back", () -> c.arrow(23, 0));
        CaptionLines all = new CaptionLines();
        for (int a = 0; a < 24; a++) {
            for (int b = 0; b < a; b++) {
                all.way(a, b, true);
            }
        }
        DUE.answers(276, "all ways", () -> all.count(4));
        DUE.answers(17, "a straight one", () -> all.arrow(5, 17));
    }

    private static void arrows() {
        CaptionLines c = new CaptionLines();
        c.way(0, 1, true);
        c.way(1, 3, true);
        c.way(0, 2, true);
        c.way(2, 3, true);
        DUE.answers(1, "the lowest of two", () -> c.arrow(0, 3));
        DUE.answers(1, "and back", () -> c.arrow(3, 0));
        DUE.answers(0, "itself", () -> c.arrow(0, 0));
        DUE.answers(23, "itself without any way", () -> c.arrow(23, 23));
        DUE.answers(-1, "no way", () -> c.arrow(0, 4));
        DUE.answers(-1, "no way back", () -> c.arrow(4, 0));
        c.way(0, 1, false);
        DUE.answers(2, "the only one left", () -> c.arrow(0, 3));
        DUE.answers(3, "all around", () -> c.arrow(1, 0));
        c.way(3, 0, true);
        DUE.answers(3, "a shorter one through a higher room", () -> c.arrow(0, 1));
        DUE.answers(3, "straight", () -> c.arrow(0, 3));
        DUE.answersAndKeeps(x -> { }, 1, "arrow(0, 3)", x -> x.arrow(0, 3));
        DUE.answersAndKeeps(x -> { }, false, "way(1, 0, true), as it is", x -> x.way(1, 0, true));
        DUE.answersAndKeeps(x -> { }, false, "way(3, 0, false), as it is", x -> x.way(3, 0, false));
    }

    private static void longestWay() {
        CaptionLines c = new CaptionLines();
        for (int room = 0; room < 23; room++) {
            c.way(room, room + 1, true);
        }
        DUE.answers(1, "through all rooms", () -> c.arrow(0, 23));
        DUE.answers(22, "and back", () -> c.arrow(23, 0));
        DUE.answers(13, "from the middle", () -> c.arrow(12, 23));
        c.way(11, 12, false);
        DUE.answers(-1, "broken", () -> c.arrow(0, 23));
        DUE.answers(1, "as far as it goes", () -> c.arrow(0, 11));
        c.way(0, 23, true);
        DUE.answers(23, "the other way round", () -> c.arrow(0, 12));
        DUE.answers(10, "the other way round, from its end", () -> c.arrow(11, 12));
    }

    private static void lowestOfMany() {
        CaptionLines c = new CaptionLines();
        for (int room = 22; room > 10; room--) {
            c.way(10, room, true);
            c.way(room, 23, true);
        }
        for (int room = 11; room < 22; room++) {
            int lowest = room;
            DUE.answers(lowest, "the lowest of many", () -> c.arrow(10, 23));
            DUE.answers(lowest, "and back", () -> c.arrow(23, 10));
            c.way(room, 23, false);
        }
    }

    private static void everyRoom() {
        for (int room = 1; room < 24; room++) {
            CaptionLines c = new CaptionLines();
            int other = room;
            c.way(0, other, true);
            DUE.answers(other, "arrow(0, " + other + ")", () -> c.arrow(0, other));
            DUE.answers(0, "arrow(" + other + ", 0)", () -> c.arrow(other, 0));
        }
    }

    private static void againstDistances() {
        int seed = 7;
        for (int n = 0; n < 30; n++) {
            CaptionLines c = new CaptionLines();
            int[][] far = new int[24][24];
            for (int[] row : far) {
                java.util.Arrays.fill(row, 1000);
            }
            for (int way = 0; way < 10 + n; way++) {
                seed = seed * 1103515245 + 12345;
                int a = (seed >>> 16) % 24;
                int b = (seed >>> 8) % 24;
                if (a != b) {
                    c.way(a, b, true);
                    far[a][b] = 1;
                    far[b][a] = 1;
                }
            }
            boolean[][] joined = joined(far);
            shorten(far);
            for (int a = 0; a < 20; a++) {
                for (int b = 0; b < 20; b++) {
                    int from = a;
                    int to = b;
                    DUE.answers(next(joined, far, a, b), "arrow(" + a + ", " + b + ")", () -> c.arrow(from, to));
                }
            }
        }
    }

    private static boolean[][] joined(int[][] far) {
        boolean[][] joined = new boolean[24][24];
        for (int a = 0; a < 24; a++) {
            for (int b = 0; b < 24; b++) {
                joined[a][b] = far[a][b] == 1;
            }
        }
        return joined;
    }

    private static void shorten(int[][] far) {
        for (int by = 0; by < 24; by++) {
            far[by][by] = 0;
            for (int a = 0; a < 24; a++) {
                for (int b = 0; b < 24; b++) {
                    far[a][b] = Math.min(far[a][b], far[a][by] + far[by][b]);
                }
            }
        }
    }

    private static int next(boolean[][] joined, int[][] far, int from, int to) {
        if (from == to) {
            return from;
        }
        for (int room = 0; room < 24; room++) {
            if (joined[from][room] && far[from][to] < 1000 && far[room][to] == far[from][to] - 1) {
                return room;
            }
        }
        return -1;
    }

    private static void refusals() {
        for (int bad : new int[] {-1, 24, 25, 32, Integer.MIN_VALUE, Integer.MAX_VALUE}) {
            DUE.refuses(IndexOutOfBoundsException.class, "way(" + bad + ", 0, true)", x -> x.way(bad, 0, true) ? 1 : 0);
            DUE.refuses(IndexOutOfBoundsException.class, "way(0, " + bad + ", true)", x -> x.way(0, bad, true) ? 1 : 0);
            DUE.refuses(IndexOutOfBoundsException.class, "way(1, " + bad + ", false)", x -> x.way(1, bad, false) ? 1 : 0);
            DUE.refuses(IndexOutOfBoundsException.class, "way(x, x) of " + bad, x -> x.way(bad, bad, true) ? 1 : 0);
            DUE.refuses(IndexOutOfBoundsException.class, "arrow(" + bad + ", 0)", x -> x.arrow(bad, 0));
            DUE.refuses(IndexOutOfBoundsException.class, "arrow(0, " + bad + ")", x -> x.arrow(0, bad));
            DUE.refuses(IndexOutOfBoundsException.class, "arrow(x, x) of " + bad, x -> x.arrow(bad, bad));
        }
        for (int room = 0; room < 24; room++) {
            int same = room;
            DUE.refuses(IllegalArgumentException.class, "way(x, x, true) of " + same, x -> x.way(same, same, true) ? 1 : 0);
            DUE.refuses(IllegalArgumentException.class, "way(x, x, false) of " + same, x -> x.way(same, same, false) ? 1 : 0);
        }
    }
}
