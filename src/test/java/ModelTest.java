import java.util.ArrayList;
import java.util.Arrays;
import java.util.List;
import java.util.Map;
import java.util.TreeMap;

/**
 * Runs of at most 512 calls, wrong ones among them, against a second writing of the document in other ways: texts
 * by a pattern, lines by comparing whole ways, ways by distances. The runs are the same each time.
 */
public final class ModelTest {
    private static final Due DUE = new Due();
    private static final int RUNS = 400;
    private static final int CALLS = 512;
    private static final int[] EDGES = {-2, -1, 0, 1, 2, 3, 4, 5, 9, 10, 15, 16, 23, 24, 27, 28, 60, 61, 63, 64,
        Integer.MIN_VALUE, Integer.MAX_VALUE};
    private static final String[] WORDS = {"a", "ab", "abc", "b", "ba", "cab", "abba", "cabab", "bacabac"};

    private long seed;
    private final CaptionLines c = new CaptionLines();
    private final Model model = new Model();
    private String toType = "";
    private int calls;

    private ModelTest(int run) {
        seed = run * 7919L + 17;
    }

    public static void main(String[] args) {
        for (int run = 0; run < RUNS; run++) {
            ModelTest test = new ModelTest(run);
            while (test.calls < CALLS) {
                test.step(run);
                test.calls++;
            }
        }
        DUE.end();
    }

    private int below(int n) {
        seed = seed * 6364136223846793005L + 1442695040888963407L;
        return (int) ((seed >>> 33) % n);
    }

    /** Mostly one that is there, now and then an edge. */
    private int number(int n) {
        return below(12) == 0 ? EDGES[below(EDGES.length)] : below(n);
    }

    private void step(int run) {
        if (!toType.isEmpty()) {
            int sign = toType.charAt(0);
            toType = toType.substring(1);
            same(run, "unit(" + sign + ")", () -> c.unit(sign), () -> model.unit(sign));
            return;
        }
        int kind = below(40);
        if (kind < 12) {
            pads(run, kind);
        } else if (kind < 26) {
            captions(run, kind);
        } else if (kind < 30) {
            zones(run, kind);
        } else if (kind < 36) {
            rooms(run, kind);
        } else {
            int what = number(6);
            same(run, "count(" + what + ")", () -> c.count(what), () -> model.count(what));
        }
    }

    private void pads(int run, int kind) {
        int cell = below(10) == 0 ? EDGES[below(EDGES.length)] : 28 + below(36);
        int sign = below(4) == 0 ? below(300) - 20 : " .ab".charAt(below(4));
        if (kind < 5) {
            toType = phrase();
        } else if (kind == 5) {
            toType = "abc".substring(below(2)) + "cba".substring(below(3));
        } else if (kind == 6) {
            same(run, "clear()", c::clear, model::clear);
        } else if (kind == 7) {
            same(run, "unit(" + sign + ")", () -> c.unit(sign), () -> model.unit(sign));
        } else if (kind == 8) {
            same(run, "back()", c::back, model::back);
        } else {
            same(run, "contract(" + cell + ")", () -> c.contract(cell), () -> model.contract(cell));
        }
    }

    private String phrase() {
        StringBuilder all = new StringBuilder(below(4) == 0 ? " " : "");
        int words = 1 + below(below(6) == 0 ? 14 : 4);
        for (int word = 0; word < words; word++) {
            all.append(word == 0 ? "" : " ").append(WORDS[below(WORDS.length)]).append(below(4) == 0 ? "." : "");
        }
        return all.toString();
    }

    private void captions(int run, int kind) {
        int caption = number(10) % 4 == 3 ? number(10) : below(2);
        int language = number(5);
        int other = below(5) == 0 ? -1 : number(5);
        int width = below(10) == 0 ? EDGES[below(EDGES.length)] : 3 + below(20);
        String place = "(" + caption + ", " + language;
        if (kind < 16) {
            same(run, "text" + place + ")", () -> c.text(caption, language), () -> model.text(caption, language));
        } else if (kind == 16) {
            same(run, "falls(" + language + ", " + other + ")", () -> c.falls(language, other),
                    () -> model.falls(language, other));
        } else if (kind == 17) {
            same(run, "shown" + place + ")", () -> c.shown(caption, language), () -> model.shown(caption, language));
        } else if (kind == 18) {
            int version = number(3);
            int i = number(12) - 1;
            same(run, "sign" + place + ", " + version + ", " + i + ")", () -> c.sign(caption, language, version, i),
                    () -> model.sign(caption, language, version, i));
        } else if (kind < 21) {
            same(run, "lines" + place + ", " + width + ")", () -> c.lines(caption, language, width),
                    () -> model.lines(caption, language, width));
        } else if (kind == 21) {
            int k = number(5) - 1;
            int what = number(2);
            same(run, "line(" + k + ", " + what + ")", () -> c.line(k, what), () -> model.line(k, what));
        } else if (kind == 22) {
            same(run, "level" + place + ")", () -> c.level(caption, language), () -> model.level(caption, language));
        } else if (kind == 23) {
            same(run, "fingers" + place + ")", () -> c.fingers(caption, language), () -> model.fingers(caption, language));
        } else {
            int k = number(15);
            same(run, "cell(" + k + ")", () -> c.cell(k), () -> model.cell(k));
        }
    }

    private void zones(int run, int kind) {
        int span = run % 3 == 0 ? 30 : 10000;
        int x = below(20) == 0 ? 10001 : below(2 * span + 1) - span;
        int y = below(20) == 0 ? -10001 : below(2 * span + 1) - span;
        int radius = number(span / 3);
        if (kind < 28) {
            same(run, "zone(" + x + ", " + y + ", " + radius + ")", () -> c.zone(x, y, radius),
                    () -> model.zone(x, y, radius));
        } else {
            same(run, "heard(" + x + ", " + y + ")", () -> c.heard(x, y), () -> model.heard(x, y));
        }
    }

    private void rooms(int run, int kind) {
        int span = run % 2 == 0 ? 8 : 24;
        int a = number(span);
        int b = number(span);
        boolean on = below(4) != 0;
        if (kind < 33) {
            same(run, "way(" + a + ", " + b + ", " + on + ")", () -> c.way(a, b, on), () -> model.way(a, b, on));
        } else {
            same(run, "arrow(" + a + ", " + b + ")", () -> c.arrow(a, b), () -> model.arrow(a, b));
        }
    }

    private void same(int run, String call, Due.Call got, Due.Call want) {
        DUE.answers(Due.said(want), "run " + run + ", call " + calls + ": " + call, got);
    }

    /** The document once more. */
    private static final class Model {
        private String pad = "";
        private final List<List<List<String>>> texts = new ArrayList<>();
        private final int[] fallbacks = {-1, -1, -1, -1, -1};
        private int width;
        private List<String> set = List.of();
        private final Map<String, Integer> contractions = new TreeMap<>();
        private List<String> cells = List.of();
        private List<Integer> cellNumbers = List.of();
        private final List<long[]> zones = new ArrayList<>();
        private final boolean[][] joined = new boolean[24][24];

        Model() {
            for (int caption = 0; caption < 10; caption++) {
                texts.add(new ArrayList<>());
                for (int language = 0; language < 5; language++) {
                    texts.get(caption).add(new ArrayList<>());
                }
            }
        }

        private static void index(boolean there) {
            if (!there) {
                throw new IndexOutOfBoundsException();
            }
        }

        private static void state(boolean right) {
            if (!right) {
                throw new IllegalStateException();
            }
        }

        private static void argument(boolean right) {
            if (!right) {
                throw new IllegalArgumentException();
            }
        }

        private static boolean in(int least, int number, int most) {
            return least <= number && number <= most;
        }

        private List<String> versions(int caption, int language) {
            index(in(0, caption, 9) && in(0, language, 4));
            return texts.get(caption).get(language);
        }

        int unit(int sign) {
            state(pad.length() < 80);
            argument("abcdefghijklmnopqrstuvwxyz .".indexOf(sign) >= 0);
            pad += (char) sign;
            return pad.length();
        }

        int clear() {
            int had = pad.length();
            pad = "";
            return had;
        }

        private static boolean isText(String row) {
            return row.matches("[a-z]+\\.?( [a-z]+\\.?)*");
        }

        int text(int caption, int language) {
            List<String> versions = versions(caption, language);
            state(versions.size() < 4);
            if (!isText(pad)) {
                int place = 0;
                while (place < pad.length()
                        && (isText(pad.substring(0, place + 1)) || isText(pad.substring(0, place + 1) + "a"))) {
                    place++;
                }
                return -1 - place;
            }
            versions.add(pad);
            pad = "";
            return versions.size() - 1;
        }

        boolean falls(int language, int to) {
            index(in(0, language, 4) && in(-1, to, 4));
            int had = fallbacks[language];
            fallbacks[language] = to;
            int reached = language;
            for (int step = 0; step < 10 && reached != -1; step++) {
                reached = fallbacks[reached];
            }
            if (reached != -1) {
                fallbacks[language] = had;
            }
            return reached == -1;
        }

        int shown(int caption, int language) {
            versions(caption, language);
            while (language != -1 && versions(caption, language).isEmpty()) {
                language = fallbacks[language];
            }
            return language;
        }

        private String latest(int caption, int language) {
            int found = shown(caption, language);
            return found == -1 ? null : versions(caption, found).get(versions(caption, found).size() - 1);
        }

        int sign(int caption, int language, int version, int i) {
            List<String> versions = versions(caption, language);
            index(version >= 0 && version < versions.size());
            index(in(-1, i, versions.get(version).length() - 1));
            return i == -1 ? versions.get(version).length() : versions.get(version).charAt(i);
        }

        int lines(int caption, int language, int width) {
            versions(caption, language);
            argument(in(1, width, 60));
            String text = latest(caption, language);
            if (text == null || Arrays.stream(text.split(" ")).anyMatch(word -> word.length() > width)) {
                return -1;
            }
            this.width = width;
            set = best(text, width);
            return set.size();
        }

        /** From the first word to the last one, each time with the whole way to there. */
        private static List<String> best(String text, int width) {
            List<List<String>> ways = new ArrayList<>();
            String[] words = text.split(" ");
            ways.add(List.of());
            for (int end = 1; end <= words.length; end++) {
                List<String> best = null;
                for (int first = 0; first < end; first++) {
                    String line = String.join(" ", Arrays.copyOfRange(words, first, end));
                    if (line.length() <= width) {
                        List<String> way = new ArrayList<>(ways.get(first));
                        way.add(line);
                        boolean last = end == words.length;
                        best = best == null || compare(way, best, width, last) < 0 ? way : best;
                    }
                }
                ways.add(best);
            }
            return ways.get(words.length);
        }

        private static int compare(List<String> a, List<String> b, int width, boolean last) {
            int order = Integer.compare(squares(a, width, last), squares(b, width, last));
            for (int k = 0; order == 0 && k < a.size() && k < b.size(); k++) {
                order = Integer.compare(a.get(k).length(), b.get(k).length());
            }
            return order;
        }

        private static int squares(List<String> lines, int width, boolean last) {
            int sum = 0;
            for (int k = 0; k < lines.size() - (last ? 1 : 0); k++) {
                sum += (width - lines.get(k).length()) * (width - lines.get(k).length());
            }
            return sum;
        }

        int line(int k, int what) {
            index(!set.isEmpty() && in(-1, k, set.size() - 1) && in(0, what, 1));
            if (k == -1) {
                return squares(set, width, true);
            }
            return what == 1 ? set.get(k).length() : (String.join(" ", set.subList(0, k)) + (k > 0 ? " " : "")).length();
        }

        int level(int caption, int language) {
            String text = latest(caption, language);
            if (text == null) {
                return -1;
            }
            int words = text.split(" ").length;
            return 10 * text.replaceAll("[ .]", "").length() / words + 5 * words / text.split("\\.").length;
        }

        boolean contract(int cell) {
            state(pad.matches("[a-z]{2,5}"));
            argument(in(28, cell, 63));
            if (contractions.containsKey(pad) || contractions.containsValue(cell)) {
                return false;
            }
            contractions.put(pad, cell);
            pad = "";
            return true;
        }

        int fingers(int caption, int language) {
            String text = latest(caption, language);
            if (text == null) {
                return -1;
            }
            cells = new ArrayList<>();
            cellNumbers = new ArrayList<>();
            for (int i = 0; i < text.length(); i += cells.get(cells.size() - 1).length()) {
                int length = Math.min(5, text.length() - i);
                while (length > 1 && !contractions.containsKey(text.substring(i, i + length))) {
                    length--;
                }
                String signs = text.substring(i, i + length);
                cells.add(signs);
                cellNumbers.add(length > 1 ? contractions.get(signs) : " abcdefghijklmnopqrstuvwxyz.".indexOf(signs));
            }
            return cells.size();
        }

        int cell(int k) {
            index(in(0, k, cells.size() - 1));
            return cellNumbers.get(k);
        }

        int back() {
            state(!cells.isEmpty());
            pad = String.join("", cells);
            return pad.length();
        }

        int zone(int x, int y, int radius) {
            state(zones.size() < 16);
            argument(in(-10000, x, 10000) && in(-10000, y, 10000) && in(1, radius, 10000));
            for (int n = 0; n < zones.size(); n++) {
                long[] zone = zones.get(n);
                if (square(zone[0] - x) + square(zone[1] - y) < square(zone[2] + radius)) {
                    return -1 - n;
                }
            }
            zones.add(new long[] {x, y, radius});
            return zones.size() - 1;
        }

        private static long square(long number) {
            return number * number;
        }

        int heard(int x, int y) {
            argument(in(-10000, x, 10000) && in(-10000, y, 10000));
            for (int n = 0; n < zones.size(); n++) {
                long[] zone = zones.get(n);
                if (square(zone[0] - x) + square(zone[1] - y) <= square(zone[2])) {
                    return n;
                }
            }
            return -1;
        }

        boolean way(int a, int b, boolean on) {
            index(in(0, a, 23) && in(0, b, 23));
            argument(a != b);
            boolean was = joined[a][b];
            joined[a][b] = on;
            joined[b][a] = on;
            return was != on;
        }

        private int distance(int from, int to) {
            boolean[] near = new boolean[24];
            near[from] = true;
            for (int steps = 0; steps < 24; steps++) {
                if (near[to]) {
                    return steps;
                }
                boolean[] nearer = near.clone();
                for (int a = 0; a < 24; a++) {
                    for (int b = 0; b < 24; b++) {
                        nearer[b] |= near[a] && joined[a][b];
                    }
                }
                near = nearer;
            }
            return 1000;
        }

        int arrow(int room, int to) {
            index(in(0, room, 23) && in(0, to, 23));
            int far = distance(room, to);
            for (int next = 0; next < 24 && far > 0 && far < 1000; next++) {
                if (joined[room][next] && distance(next, to) == far - 1) {
                    return next;
                }
            }
            return far == 0 ? room : -1;
        }

        int count(int what) {
            index(in(0, what, 5));
            int versions = texts.stream().flatMap(List::stream).mapToInt(List::size).sum();
            int ways = 0;
            for (boolean[] row : joined) {
                for (boolean way : row) {
                    ways += way ? 1 : 0;
                }
            }
            int[] counts = {pad.length(), versions, contractions.size(), zones.size(), ways / 2, cells.size()};
            return counts[what];
        }
    }
}
