/**
 * Captions in languages with versions and fallbacks, set into lines, levelled, written as cells and
 * read back; zones of sound and arrows between rooms. The document is ../shared/DOC.md.
 */
public final class CaptionLines {
    public static final int NONE = -1;

    private static final int PAD_SIGNS = 80;
    private static final int CAPTIONS = 10;
    private static final int LANGUAGES = 5;
    private static final int VERSIONS = 4;
    private static final int MOST_WIDTH = 60;
    /** Words of one letter with a " " between them: no text of 80 signs has more. */
    private static final int MOST_WORDS = 40;
    /** No text has more lines than words, and no line a rest of the whole width. */
    private static final int ABOVE_ANY_SUM = MOST_WORDS * MOST_WIDTH * MOST_WIDTH;
    private static final int LEAST_CONTRACTED = 2;
    private static final int MOST_CONTRACTED = 5;
    private static final int FIRST_CONTRACTION = 28;
    private static final int LAST_CONTRACTION = 63;
    private static final int SPACE_CELL = 0;
    private static final int STOP_CELL = 27;
    private static final int ZONES = 16;
    private static final int FARTHEST = 10000;
    private static final int MOST_RADIUS = 10000;
    private static final int ROOMS = 24;

    private final Row pad;
    private final Captions captions;
    private final Setting setting;
    private final Contractions contractions;
    private final Row latestCells;
    private final Zones zones;
    private final Rooms rooms;

    public CaptionLines() {
        pad = new Row(PAD_SIGNS);
        captions = new Captions();
        setting = new Setting();
        contractions = new Contractions();
        latestCells = new Row(PAD_SIGNS);
        zones = new Zones();
        rooms = new Rooms();
    }

    public int unit(int sign) throws IllegalStateException, IllegalArgumentException {
        if (pad.length() >= PAD_SIGNS) {
            throw new IllegalStateException("the pad is full");
        }
        if (!isLetter(sign) && sign != ' ' && sign != '.') {
            throw new IllegalArgumentException("no such sign");
        }
        pad.add(sign);
        return pad.length();
    }

    public int clear() {
        int had = pad.length();
        pad.empty();
        return had;
    }

    public int text(int caption, int language) throws IndexOutOfBoundsException, IllegalStateException {
        needCaptionAndLanguage(caption, language);
        if (captions.versionsOf(caption, language) >= VERSIONS) {
            throw new IllegalStateException("there are four versions");
        }
        int wrong = firstWrongPlace(pad);
        if (wrong != NONE) {
            return -1 - wrong;
        }
        int version = captions.addVersion(caption, language, pad.copy());
        pad.empty();
        return version;
    }

    public boolean falls(int language, int to) throws IndexOutOfBoundsException {
        needLanguage(language);
        if (to != NONE) {
            needLanguage(to);
        }
        return captions.fallBack(language, to);
    }

    public int shown(int caption, int language) throws IndexOutOfBoundsException {
        needCaptionAndLanguage(caption, language);
        return captions.languageShown(caption, language);
    }

    public int sign(int caption, int language, int version, int i) throws IndexOutOfBoundsException {
        needCaptionAndLanguage(caption, language);
        Row text = captions.version(caption, language, version);
        if (text == null) {
            throw new IndexOutOfBoundsException("no such version");
        }
        if (i == -1) {
            return text.length();
        }
        if (i < 0 || i >= text.length()) {
            throw new IndexOutOfBoundsException("no such place");
        }
        return text.at(i);
    }

    public int lines(int caption, int language, int width)
            throws IndexOutOfBoundsException, IllegalArgumentException {
        needCaptionAndLanguage(caption, language);
        if (width < 1 || width > MOST_WIDTH) {
            throw new IllegalArgumentException("no such width");
        }
        Row text = captions.latestShown(caption, language);
        if (text == null || !setting.set(text, width)) {
            return NONE;
        }
        return setting.lineCount();
    }

    public int line(int k, int what) throws IndexOutOfBoundsException {
        if (what != 0 && what != 1) {
            throw new IndexOutOfBoundsException("what is neither 0 nor 1");
        }
        if (setting.lineCount() == 0 || k < -1 || k >= setting.lineCount()) {
            throw new IndexOutOfBoundsException("no such line");
        }
        if (k == -1) {
            return setting.sumOfSquares();
        }
        return what == 0 ? setting.beginOf(k) : setting.signsOf(k);
    }

    public int level(int caption, int language) throws IndexOutOfBoundsException {
        needCaptionAndLanguage(caption, language);
        Row text = captions.latestShown(caption, language);
        return text == null ? NONE : levelOf(text);
    }

    public boolean contract(int cell) throws IllegalStateException, IllegalArgumentException {
        if (!canBeContracted(pad)) {
            throw new IllegalStateException("the pad is not 2 to 5 letters");
        }
        if (cell < FIRST_CONTRACTION || cell > LAST_CONTRACTION) {
            throw new IllegalArgumentException("no cell for a contraction");
        }
        if (contractions.rowOf(cell) != null || contractions.has(pad)) {
            return false;
        }
        contractions.put(cell, pad.copy());
        pad.empty();
        return true;
    }

    public int fingers(int caption, int language) throws IndexOutOfBoundsException {
        needCaptionAndLanguage(caption, language);
        Row text = captions.latestShown(caption, language);
        if (text == null) {
            return NONE;
        }
        contractions.write(text, latestCells);
        return latestCells.length();
    }

    public int cell(int k) throws IndexOutOfBoundsException {
        if (k < 0 || k >= latestCells.length()) {
            throw new IndexOutOfBoundsException("no such cell");
        }
        return latestCells.at(k);
    }

    public int back() throws IllegalStateException {
        if (latestCells.length() == 0) {
            throw new IllegalStateException("there are no cells");
        }
        contractions.read(latestCells, pad);
        return pad.length();
    }

    public int zone(int x, int y, int radius) throws IllegalStateException, IllegalArgumentException {
        if (zones.total() >= ZONES) {
            throw new IllegalStateException("there are 16 zones");
        }
        needPoint(x, y);
        if (radius < 1 || radius > MOST_RADIUS) {
            throw new IllegalArgumentException("no such radius");
        }
        int overlapped = zones.lowestOverlapped(x, y, radius);
        if (overlapped != NONE) {
            return -1 - overlapped;
        }
        return zones.add(x, y, radius);
    }

    public int heard(int x, int y) throws IllegalArgumentException {
        needPoint(x, y);
        return zones.lowestAround(x, y);
    }

    public boolean way(int a, int b, boolean on) throws IndexOutOfBoundsException, IllegalArgumentException {
        needRoom(a);
        needRoom(b);
        if (a == b) {
            throw new IllegalArgumentException("the rooms are the same");
        }
        if (rooms.areJoined(a, b) == on) {
            return false;
        }
        rooms.turn(a, b);
        return true;
    }

    public int arrow(int room, int to) throws IndexOutOfBoundsException {
        needRoom(room);
        needRoom(to);
        return room == to ? room : rooms.nextRoom(room, to);
    }

    public int count(int what) throws IndexOutOfBoundsException {
        switch (what) {
            case 0:
                return pad.length();
            case 1:
                return captions.total();
            case 2:
                return contractions.total();
            case 3:
                return zones.total();
            case 4:
                return rooms.wayCount();
            case 5:
                return latestCells.length();
            default:
                throw new IndexOutOfBoundsException("nothing to count");
        }
    }

    private static void needCaptionAndLanguage(int caption, int language) {
        if (caption < 0 || caption >= CAPTIONS) {
            throw new IndexOutOfBoundsException("no such caption");
        }
        needLanguage(language);
    }

    private static void needLanguage(int language) {
        if (language < 0 || language >= LANGUAGES) {
            throw new IndexOutOfBoundsException("no such language");
        }
    }

    private static void needRoom(int room) {
        if (room < 0 || room >= ROOMS) {
            throw new IndexOutOfBoundsException("no such room");
        }
    }

    private static void needPoint(int x, int y) {
        if (x < -FARTHEST || x > FARTHEST || y < -FARTHEST || y > FARTHEST) {
            throw new IllegalArgumentException("no such point");
        }
    }

    private static boolean isLetter(int sign) {
        return sign >= 'a' && sign <= 'z';
    }

    /** The place where a row stops being a text, its length if it only ends wrongly, NONE if it is one. */
    private static int firstWrongPlace(Row row) {
        // What may begin a text is what may stand behind a " ", and what may not end one is a " ":
        // so an empty row is wrong at its end, too.
        int ahead = ' ';
        for (int i = 0; i < row.length(); i++) {
            int sign = row.at(i);
            if (!mayFollow(ahead, sign)) {
                return i;
            }
            ahead = sign;
        }
        return ahead == ' ' ? row.length() : NONE;
    }

    private static boolean mayFollow(int ahead, int sign) {
        if (isLetter(ahead)) {
            return true;
        }
        return ahead == '.' ? sign == ' ' : isLetter(sign);
    }

    private static int levelOf(Row text) {
        int letters = 0;
        // The last word and the last sentence end with the text; both start at 1, so that neither
        // divisor can be 0.
        int words = 1;
        int sentences = 1;
        for (int i = 0; i < text.length(); i++) {
            int sign = text.at(i);
            if (isLetter(sign)) {
                letters++;
            } else if (sign == ' ') {
                words++;
            } else if (i < text.length() - 1) {
                sentences++;
            }
        }
        return 10 * letters / words + 5 * words / sentences;
    }

    private static boolean canBeContracted(Row row) {
        if (row.length() < LEAST_CONTRACTED || row.length() > MOST_CONTRACTED) {
            return false;
        }
        for (int i = 0; i < row.length(); i++) {
            if (!isLetter(row.at(i))) {
                return false;
            }
        }
        return true;
    }

    private static int ownCell(int sign) {
        if (sign == ' ') {
            return SPACE_CELL;
        }
        return sign == '.' ? STOP_CELL : sign - 'a' + 1;
    }

    private static int ownSign(int cell) {
        if (cell == SPACE_CELL) {
            return ' ';
        }
        return cell == STOP_CELL ? '.' : 'a' + cell - 1;
    }

    /** Numbers behind one another up to a limit: the pad, a version, a contraction's letters, cells. */
    private static final class Row {
        private final int[] items;
        private int length;

        Row(int most) {
            items = new int[Math.max(most, 0)];
            length = 0;
        }

        int length() {
            return length;
        }

        int at(int i) {
            return i >= 0 && i < length ? items[i] : NONE;
        }

        void add(int item) {
            if (length < items.length) {
                items[length] = item;
                length++;
            }
        }

        void addAll(Row other) {
            for (int i = 0; i < other.length(); i++) {
                add(other.at(i));
            }
        }

        void empty() {
            length = 0;
        }

        /** As large as what it holds, since up to 200 versions are kept. */
        Row copy() {
            Row made = new Row(length);
            made.addAll(this);
            return made;
        }

        boolean standsIn(Row other, int from) {
            for (int i = 0; i < length; i++) {
                if (other.at(from + i) != at(i)) {
                    return false;
                }
            }
            return true;
        }
    }

    /** The versions of all captions and the languages' fallbacks; its callers test captions and languages. */
    private static final class Captions {
        private final Row[] versions;
        private final int[] versionCounts;
        private final int[] fallbacks;
        private int total;

        Captions() {
            versions = new Row[CAPTIONS * LANGUAGES * VERSIONS];
            versionCounts = new int[CAPTIONS * LANGUAGES];
            fallbacks = new int[LANGUAGES];
            for (int language = 0; language < LANGUAGES; language++) {
                fallbacks[language] = NONE;
            }
            total = 0;
        }

        int total() {
            return total;
        }

        int versionsOf(int caption, int language) {
            return versionCounts[caption * LANGUAGES + language];
        }

        int addVersion(int caption, int language, Row text) {
            int place = caption * LANGUAGES + language;
            int version = versionCounts[place];
            if (version >= VERSIONS) {
                return NONE;
            }
            versions[place * VERSIONS + version] = text;
            versionCounts[place] = version + 1;
            total++;
            return version;
        }

        Row version(int caption, int language, int version) {
            if (version < 0 || version >= versionsOf(caption, language)) {
                return null;
            }
            return versions[(caption * LANGUAGES + language) * VERSIONS + version];
        }

        boolean fallBack(int language, int to) {
            // There is no ring yet, so no chain has more steps than there are languages.
            int reached = to;
            for (int step = 0; step < LANGUAGES && reached != NONE; step++) {
                if (reached == language) {
                    return false;
                }
                reached = fallbacks[reached];
            }
            fallbacks[language] = to;
            return true;
        }

        int languageShown(int caption, int language) {
            int reached = language;
            for (int step = 0; step < LANGUAGES && reached != NONE; step++) {
                if (versionsOf(caption, reached) > 0) {
                    return reached;
                }
                reached = fallbacks[reached];
            }
            return NONE;
        }

        Row latestShown(int caption, int language) {
            int found = languageShown(caption, language);
            if (found == NONE) {
                return null;
            }
            return version(caption, found, versionsOf(caption, found) - 1);
        }
    }

    /**
     * The latest lines that could be set. What the search needs is held apart from what it found, so
     * that a text that can't be set leaves the latest lines as they are.
     */
    private static final class Setting {
        private final int[] wordBegins;
        private final int[] wordEnds;
        private int words;
        private final int[] leastFrom;
        private final int[] nextFirst;
        private final int[] lineBegins;
        private final int[] lineSigns;
        private int lines;
        private int sum;

        Setting() {
            wordBegins = new int[MOST_WORDS];
            wordEnds = new int[MOST_WORDS];
            words = 0;
            leastFrom = new int[MOST_WORDS];
            nextFirst = new int[MOST_WORDS];
            lineBegins = new int[MOST_WORDS];
            lineSigns = new int[MOST_WORDS];
            lines = 0;
            sum = 0;
        }

        int lineCount() {
            return lines;
        }

        int sumOfSquares() {
            return sum;
        }

        int beginOf(int k) {
            return k >= 0 && k < lines ? lineBegins[k] : NONE;
        }

        int signsOf(int k) {
            return k >= 0 && k < lines ? lineSigns[k] : NONE;
        }

        boolean set(Row text, int width) {
            findWords(text);
            if (longestWord() > width) {
                return false;
            }
            findLeast(width);
            takeLines();
            return true;
        }

        private void findWords(Row text) {
            words = 0;
            int begin = 0;
            for (int i = 0; i <= text.length(); i++) {
                if (i == text.length() || text.at(i) == ' ') {
                    addWord(begin, i);
                    begin = i + 1;
                }
            }
        }

        private void addWord(int begin, int end) {
            if (words < MOST_WORDS) {
                wordBegins[words] = begin;
                wordEnds[words] = end;
                words++;
            }
        }

        private int longestWord() {
            int longest = 0;
            for (int word = 0; word < words; word++) {
                longest = Math.max(longest, wordEnds[word] - wordBegins[word]);
            }
            return longest;
        }

        /**
         * From the last word to the first one: what is best behind a line does not depend on what is
         * ahead of it. Only a smaller sum takes the place of one found with fewer words in the line.
         */
        private void findLeast(int width) {
            for (int first = words - 1; first >= 0; first--) {
                leastFrom[first] = ABOVE_ANY_SUM;
                nextFirst[first] = words;
                for (int next = first + 1; next <= words; next++) {
                    int rest = width - (wordEnds[next - 1] - wordBegins[first]);
                    if (rest < 0) {
                        break;
                    }
                    // The last line's rest does not count.
                    int squares = next == words ? 0 : rest * rest + leastFrom[next];
                    if (squares < leastFrom[first]) {
                        leastFrom[first] = squares;
                        nextFirst[first] = next;
                    }
                }
            }
        }

        private void takeLines() {
            sum = leastFrom[0];
            lines = 0;
            int first = 0;
            for (int k = 0; k < MOST_WORDS && first < words; k++) {
                int next = nextFirst[first];
                lineBegins[k] = wordBegins[first];
                lineSigns[k] = wordEnds[next - 1] - wordBegins[first];
                lines++;
                first = next;
            }
        }
    }

    /** Rows of letters, each at the place of its cell. */
    private static final class Contractions {
        private final Row[] rows;
        private int total;

        Contractions() {
            rows = new Row[LAST_CONTRACTION - FIRST_CONTRACTION + 1];
            total = 0;
        }

        int total() {
            return total;
        }

        Row rowOf(int cell) {
            if (cell < FIRST_CONTRACTION || cell > LAST_CONTRACTION) {
                return null;
            }
            return rows[cell - FIRST_CONTRACTION];
        }

        boolean has(Row letters) {
            int cell = longestAt(letters, 0);
            Row row = rowOf(cell);
            // No row that stands in the letters is longer than they are: if they are one, it is the longest.
            return row != null && row.length() == letters.length();
        }

        void put(int cell, Row letters) {
            if (cell < FIRST_CONTRACTION || cell > LAST_CONTRACTION) {
                return;
            }
            rows[cell - FIRST_CONTRACTION] = letters;
            total++;
        }

        void write(Row text, Row cells) {
            cells.empty();
            int i = 0;
            // Each cell takes one sign or more, so there are never more cells than signs.
            for (int k = 0; k < text.length() && i < text.length(); k++) {
                int cell = longestAt(text, i);
                Row row = rowOf(cell);
                cells.add(row == null ? ownCell(text.at(i)) : cell);
                i += row == null ? 1 : row.length();
            }
        }

        void read(Row cells, Row signs) {
            signs.empty();
            for (int k = 0; k < cells.length(); k++) {
                int cell = cells.at(k);
                Row row = rowOf(cell);
                if (row == null) {
                    signs.add(ownSign(cell));
                } else {
                    signs.addAll(row);
                }
            }
        }

        private int longestAt(Row text, int from) {
            int found = NONE;
            int longest = 0;
            for (int cell = FIRST_CONTRACTION; cell <= LAST_CONTRACTION; cell++) {
                Row row = rowOf(cell);
                if (row != null && row.length() > longest && row.standsIn(text, from)) {
                    found = cell;
                    longest = row.length();
                }
            }
            return found;
        }
    }

    /**
     * Middles and radii. No square here leaves an int: two coordinates are at most 20000 apart, and two
     * radii are at most 20000 together.
     */
    private static final class Zones {
        private final int[] xs;
        private final int[] ys;
        private final int[] radii;
        private int total;

        Zones() {
            xs = new int[ZONES];
            ys = new int[ZONES];
            radii = new int[ZONES];
            total = 0;
        }

        int total() {
            return total;
        }

        int add(int x, int y, int radius) {
            if (total >= ZONES) {
                return NONE;
            }
            xs[total] = x;
            ys[total] = y;
            radii[total] = radius;
            total++;
            return total - 1;
        }

        int lowestOverlapped(int x, int y, int radius) {
            for (int zone = 0; zone < total; zone++) {
                int reach = radii[zone] + radius;
                if (squareOfDistance(zone, x, y) < reach * reach) {
                    return zone;
                }
            }
            return NONE;
        }

        int lowestAround(int x, int y) {
            for (int zone = 0; zone < total; zone++) {
                if (squareOfDistance(zone, x, y) <= radii[zone] * radii[zone]) {
                    return zone;
                }
            }
            return NONE;
        }

        private int squareOfDistance(int zone, int x, int y) {
            int dx = xs[zone] - x;
            int dy = ys[zone] - y;
            return dx * dx + dy * dy;
        }
    }

    /** For each room the rooms that a way joins to it, as bits: 24 rooms fit an int. Its callers test rooms. */
    private static final class Rooms {
        private final int[] joined;
        private int ways;

        Rooms() {
            joined = new int[ROOMS];
            ways = 0;
        }

        int wayCount() {
            return ways;
        }

        boolean areJoined(int a, int b) {
            return (joined[a] & 1 << b) != 0;
        }

        void turn(int a, int b) {
            ways += areJoined(a, b) ? -1 : 1;
            joined[a] ^= 1 << b;
            joined[b] ^= 1 << a;
        }

        /** Goes from the end, ring by ring: the first ring beside the room has the ends of its shortest ways. */
        int nextRoom(int room, int to) {
            int reached = 0;
            int ring = 1 << to;
            for (int steps = 0; steps < ROOMS && ring != 0; steps++) {
                int beside = joined[room] & ring;
                if (beside != 0) {
                    return lowestIn(beside);
                }
                reached |= ring;
                ring = besideAny(ring) & ~reached;
            }
            return NONE;
        }

        private int besideAny(int ring) {
            int beside = 0;
            for (int room = 0; room < ROOMS; room++) {
                if ((ring & 1 << room) != 0) {
                    beside |= joined[room];
                }
            }
            return beside;
        }

        private static int lowestIn(int bits) {
            for (int room = 0; room < ROOMS; room++) {
                if ((bits & 1 << room) != 0) {
                    return room;
                }
            }
            return NONE;
        }
    }
}
