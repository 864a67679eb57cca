/** Promises 17 and 18: way, arrow. */
public final class RoomsTest {
    private static final Due DUE = new Due();
    private static final String WAY = "Promise 17: way";
    private static final String ARROW = "Promise 18: arrow";
    private static final int[] NO_ROOMS = {-1, 24, 25, 31, 32, Integer.MIN_VALUE, Integer.MAX_VALUE};

    public static void main(String[] args) {
        wayBetweenTwo();
        noneAnyMore();
        wasNotSo();
        noSuchRooms();
        theSame();
        shortestWays();
        againstDistances();
        lowestNext();
        itself();
        noWay();
        noSuchRoomForAnArrow();
        DUE.end();
    }

    private static void wayBetweenTwo() {
        DUE.sentence(WAY, "A way between two rooms");
        for (int room = 1; room < 24; room++) {
            CaptionLines c = new CaptionLines();
            int other = room;
            c.way(0, other, true);
            DUE.answers(other, "arrow(0, " + other + ")", () -> c.arrow(0, other));
            DUE.answers(0, "arrow(" + other + ", 0)", () -> c.arrow(other, 0));
            DUE.answers(1, "ways", () -> c.count(4));
        }
        CaptionLines all = new CaptionLines();
        int ways = 0;
        for (int a = 0; a < 24; a++) {
            for (int b = 0; b < a; b++) {
                all.way(a, b, true);
                ways++;
            }
            int due = ways;
            DUE.answers(due, "ways among the rooms up to " + a, () -> all.count(4));
        }
        DUE.answers(276, "all ways", () -> all.count(4));
        DUE.answers(23, "a straight one", () -> all.arrow(0, 23));
        DUE.answers(17, "another straight one", () -> all.arrow(5, 17));
    }

    private static void noneAnyMore() {
        DUE.sentence(WAY, "or none any more");
        CaptionLines c = new CaptionLines();
        c.way(0, 23, true);
        c.way(0, 22, true);
        DUE.answers(true, "away from the other side", () -> c.way(23, 0, false));
        DUE.answers(-1, "no way there", () -> c.arrow(0, 23));
        DUE.answers(-1, "no way back", () -> c.arrow(23, 0));
        DUE.answers(22, "another way stays", () -> c.arrow(0, 22));
        DUE.answers(1, "ways", () -> c.count(4));
        DUE.answers(true, "and there again", () -> c.way(0, 23, true));
        DUE.answers(23, "the way", () -> c.arrow(0, 23));
        DUE.answers(2, "ways", () -> c.count(4));
        CaptionLines all = new CaptionLines();
        for (int room = 1; room < 24; room++) {
            all.way(0, room, true);
        }
        for (int room = 1; room < 24; room++) {
            int other = room;
            DUE.answers(true, "away with " + room, () -> all.way(0, other, false));
            DUE.answers(23 - other, "ways that are left", () -> all.count(4));
        }
    }

    private static void wasNotSo() {
        DUE.sentence(WAY, "whether that was not so");
        CaptionLines c = new CaptionLines();
        DUE.answers(false, "no way to take away", () -> c.way(0, 23, false));
        DUE.answers(true, "a way", () -> c.way(0, 23, true));
        DUE.answers(false, "again", () -> c.way(0, 23, true));
        DUE.answers(false, "again, from the other side", () -> c.way(23, 0, true));
        DUE.answers(true, "away", () -> c.way(0, 23, false));
        DUE.answers(false, "away again", () -> c.way(0, 23, false));
        DUE.answers(false, "away again, from the other side", () -> c.way(23, 0, false));
        DUE.keeps(false, "way(0, 1, true), as it is", x -> x.way(0, 1, true));
        DUE.keeps(false, "way(1, 0, true), as it is", x -> x.way(1, 0, true));
        DUE.keeps(false, "way(3, 0, false), as it is", x -> x.way(3, 0, false));
        DUE.keeps(false, "way(22, 23, false), as it is", x -> x.way(22, 23, false));
    }

    private static void noSuchRooms() {
        DUE.sentence(WAY, "IndexOutOfBoundsException");
        DUE.answers(true, "rooms 0 and 23", () -> new CaptionLines().way(0, 23, true));
        DUE.answers(true, "rooms 23 and 0", () -> new CaptionLines().way(23, 0, true));
        for (int bad : NO_ROOMS) {
            DUE.keeps(Due.INDEX, "way(" + bad + ", 0, true)", x -> x.way(bad, 0, true));
            DUE.keeps(Due.INDEX, "way(0, " + bad + ", true)", x -> x.way(0, bad, true));
            DUE.keeps(Due.INDEX, "way(" + bad + ", 1, false)", x -> x.way(bad, 1, false));
            DUE.keeps(Due.INDEX, "way(1, " + bad + ", false)", x -> x.way(1, bad, false));
            DUE.keeps(Due.INDEX, "way(x, x, true) of " + bad, x -> x.way(bad, bad, true));
            DUE.keeps(Due.INDEX, "way(x, x, false) of " + bad, x -> x.way(bad, bad, false));
        }
    }

    private static void theSame() {
        DUE.sentence(WAY, "IllegalArgumentException: they are the same.");
        for (int room = 0; room < 24; room++) {
            int same = room;
            DUE.keeps(Due.ARGUMENT, "way(x, x, true) of " + same, x -> x.way(same, same, true));
            DUE.keeps(Due.ARGUMENT, "way(x, x, false) of " + same, x -> x.way(same, same, false));
        }
    }

    private static void shortestWays() {
        DUE.sentence(ARROW, "Where the arrow in a room points for another one: the lowest next room on a shortest way");
        CaptionLines c = new CaptionLines();
        for (int room = 0; room < 23; room++) {
            c.way(room, room + 1, true);
        }
        DUE.answers(1, "through all rooms", () -> c.arrow(0, 23));
        DUE.answers(22, "and back", () -> c.arrow(23, 0));
        DUE.answers(13, "from the middle", () -> c.arrow(12, 23));
        c.way(11, 12, false);
        DUE.answers(1, "as far as it goes", () -> c.arrow(0, 11));
        c.way(0, 23, true);
        DUE.answers(23, "the other way round", () -> c.arrow(0, 12));
        DUE.answers(10, "the other way round, from its end", () -> c.arrow(11, 12));
        c.way(0, 12, true);
        DUE.answers(12, "straight, not through a lower room", () -> c.arrow(0, 12));
        DUE.answers(12, "a shorter one, but for the last step", () -> c.arrow(0, 13));
        DUE.keeps(1, "arrow(0, 3)", x -> x.arrow(0, 3));
        DUE.keeps(0, "arrow(4, 3)", x -> x.arrow(4, 3));
    }

    private static void againstDistances() {
        int seed = 7;
        for (int n = 0; n < 30; n++) {
            CaptionLines c = new CaptionLines();
            int[][] far = new int[24][24];
            for (int[] row : far) {
                java.util.Arrays.fill(row, 1000);
            }
            for (int way = 0; way < 10 + n; way++) {
                seed = seed * 1103515245 + 12345;
                int a = (seed >>> 16) % 24;
                int b = (seed >>> 8) % 24;
                if (a != b) {
                    c.way(a, b, true);
                    far[a][b] = 1;
                    far[b][a] = 1;
                }
            }
            boolean[][] joined = joined(far);
            shorten(far);
            for (int a = 0; a < 20; a++) {
                for (int b = 0; b < 20; b++) {
                    int from = a;
                    int to = b;
                    DUE.answers(next(joined, far, a, b), "arrow(" + a + ", " + b + ")", () -> c.arrow(from, to));
                }
            }
        }
    }

    private static boolean[][] joined(int[][] far) {
        boolean[][] joined = new boolean[24][24];
        for (int a = 0; a < 24; a++) {
            for (int b = 0; b < 24; b++) {
                joined[a][b] = far[a][b] == 1;
            }
        }
        return joined;
    }

    private static void shorten(int[][] far) {
        for (int by = 0; by < 24; by++) {
            far[by][by] = 0;
            for (int a = 0; a < 24; a++) {
                for (int b = 0; b < 24; b++) {
                    far[a][b] = Math.min(far[a][b], far[a][by] + far[by][b]);
                }
            }
        }
    }

    private static int next(boolean[][] joined, int[][] far, int from, int to) {
        if (from == to) {
            return from;
        }
        for (int room = 0; room < 24; room++) {
            if (joined[from][room] && far[from][to] < 1000 && far[room][to] == far[from][to] - 1) {
                return room;
            }
        }
        return -1;
    }

    private static void lowestNext() {
        DUE.sentence(ARROW, "the lowest next room");
        CaptionLines c = new CaptionLines();
        for (int room = 22; room > 10; room--) {
            c.way(10, room, true);
            c.way(room, 23, true);
        }
        for (int room = 11; room < 22; room++) {
            int lowest = room;
            DUE.answers(lowest, "the lowest of many", () -> c.arrow(10, 23));
            DUE.answers(lowest, "and back", () -> c.arrow(23, 10));
            c.way(room, 23, false);
        }
        CaptionLines ends = new CaptionLines();
        for (int room : new int[] {0, 23}) {
            ends.way(11, room, true);
            ends.way(room, 12, true);
        }
        DUE.answers(0, "room 0 rather than 23", () -> ends.arrow(11, 12));
        ends.way(0, 12, false);
        DUE.answers(23, "room 23, when 0 has no way to it", () -> ends.arrow(11, 12));
    }

    private static void itself() {
        DUE.sentence(ARROW, "itself, if it is that one");
        CaptionLines c = new CaptionLines();
        for (int room = 0; room < 24; room++) {
            int same = room;
            DUE.answers(same, "arrow(x, x) of " + same + " without ways", () -> c.arrow(same, same));
            DUE.keeps(same, "arrow(x, x) of " + same, x -> x.arrow(same, same));
        }
    }

    private static void noWay() {
        DUE.sentence(ARROW, "NONE if there is no way.");
        CaptionLines c = new CaptionLines();
        for (int room = 0; room < 23; room++) {
            c.way(room, room + 1, true);
        }
        c.way(11, 12, false);
        DUE.answers(-1, "through a gap", () -> c.arrow(0, 23));
        DUE.answers(-1, "over a gap", () -> c.arrow(11, 12));
        DUE.answers(-1, "and back", () -> c.arrow(12, 11));
        c.way(11, 12, true);
        DUE.answers(1, "without a gap", () -> c.arrow(0, 23));
        DUE.keeps(-1, "arrow(0, 5)", x -> x.arrow(0, 5));
        DUE.keeps(-1, "arrow(5, 0)", x -> x.arrow(5, 0));
        DUE.keeps(-1, "arrow(22, 23)", x -> x.arrow(22, 23));
    }

    private static void noSuchRoomForAnArrow() {
        DUE.sentence(ARROW, "IndexOutOfBoundsException");
        DUE.answers(-1, "rooms 0 and 23", () -> new CaptionLines().arrow(0, 23));
        DUE.answers(-1, "rooms 23 and 0", () -> new CaptionLines().arrow(23, 0));
        for (int bad : NO_ROOMS) {
            DUE.keeps(Due.INDEX, "arrow(" + bad + ", 0)", x -> x.arrow(bad, 0));
            DUE.keeps(Due.INDEX, "arrow(0, " + bad + ")", x -> x.arrow(0, bad));
            DUE.keeps(Due.INDEX, "arrow(x, x) of " + bad, x -> x.arrow(bad, bad));
        }
    }
}
