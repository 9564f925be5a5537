import java.util.Arrays;

/** A painter by lists of words: looks a list over, paints by it, and makes shorter lists that paint the same. */
public final class ListPainter {
    public static final int BAD = -1, NONE = -2;

    private static final int NOT_TOLD = -2000000000;
    private static final int OUTSIDE = 1;
    private static final int NOT_READY = -2;

    private static final int MAX_SIDE = 32;
    private static final int MAX_WORDS = 1500;
    private static final int MAX_ASKED = 100000;
    private static final int MAX_OPEN = 8;
    private static final int MAX_LINES = 300;
    // A BEGIN takes three words, so a list holds 500 of them beside the 300 LINES.
    private static final int MAX_POINTS = MAX_LINES + MAX_WORDS / 3;

    private static final int SAVE = 1, BRING_BACK = 2, PATH = 3, BEGIN = 4, LINE = 5, CURVE = 6, CLOSE = 7;
    private static final int BOX = 8, FILL = 9, COLOUR = 10, WAY = 11, TABLE = 12, CLIP = 13, PLAIN = 14;
    private static final int[] LENGTHS = {1, 1, 1, 1, 3, 3, 5, 1, 5, 2, 2, 2, 7, 5, 1};

    private static final int UNIT = 65536;
    private static final int HALF = 32768;
    private static final int BLACK = 0xFF000000;

    private final Sheet sheet;
    private final Words list;
    private final Words shortList;
    private final Checker checker;
    private final Machine machine;
    private final Machine ownMachine;
    private final Shortener shortener;
    private boolean lookedOver;
    private boolean shortListMade;
    private int faultPlace;

    public ListPainter(int w, int h) {
        sheet = new Sheet(w, h);
        list = new Words();
        shortList = new Words();
        checker = new Checker();
        Filler filler = new Filler(sheet);
        machine = new Machine(sheet, filler);
        ownMachine = new Machine(sheet, filler);
        shortener = new Shortener(shortList, ownMachine);
        faultPlace = NONE;
    }

    public int feed(int word) {
        if (!list.hasRoom(1)) {
            return BAD;
        }
        listChanges();
        return list.add(word);
    }

    public int five(int a, int b, int c, int d, int e) {
        if (!list.hasRoom(5)) {
            return BAD;
        }
        listChanges();
        list.add(a);
        list.add(b);
        list.add(c);
        list.add(d);
        return list.add(e);
    }

    public int reset() {
        int had = list.count;
        listChanges();
        list.cutTo(0);
        return had;
    }

    public int verify() {
        int fault = checker.lookOver(list);
        lookedOver = fault == 0;
        faultPlace = lookedOver ? NONE : checker.place;
        if (lookedOver) {
            machine.restart();
            machine.forgetCounts();
        }
        return fault;
    }

    public int one() {
        if (!lookedOver) {
            return NOT_READY;
        }
        return machine.doNext(list) ? 0 : 1;
    }

    public int render(int n) {
        if (!lookedOver) {
            return NOT_READY;
        }
        if (!isAskable(n)) {
            return BAD;
        }
        return machine.run(list, n) ? 0 : 1;
    }

    public int optimise() {
        if (!lookedOver) {
            return NOT_READY;
        }
        shortList.copyFrom(list);
        shortener.shorten();
        shortListMade = true;
        return shortList.count;
    }

    public int shorter(int i) {
        if (!shortListMade || i < 0 || i >= shortList.count) {
            return NOT_TOLD;
        }
        return shortList.word(i);
    }

    public int renderShorter(int n) {
        if (!shortListMade) {
            return NOT_READY;
        }
        if (!isAskable(n)) {
            return BAD;
        }
        return ownMachine.run(shortList, n) ? 0 : 1;
    }

    public int pixel(int x, int y) {
        return sheet.holds(x, y) ? sheet.at(x, y) : OUTSIDE;
    }

    public void clear(int p) {
        sheet.cover(p);
    }

    public int sum() {
        return sheet.total();
    }

    public int state(int what) {
        if (what == 0) {
            return list.count;
        }
        if (what == 2) {
            return faultPlace;
        }
        return lookedOver ? machine.told(what) : NOT_TOLD;
    }

    private void listChanges() {
        lookedOver = false;
        shortListMade = false;
    }

    private static boolean isAskable(int n) {
        return n >= 0 && n <= MAX_ASKED;
    }

    /** A list of words, read COMMAND by COMMAND. */
    private static final class Words {
        private final int[] row = new int[MAX_WORDS];
        private int count;

        boolean hasRoom(int more) {
            return more <= MAX_WORDS - count;
        }

        int add(int word) {
            if (count < MAX_WORDS) {
                row[count] = word;
                count++;
            }
            return count;
        }

        int word(int i) {
            return i >= 0 && i < count ? row[i] : 0;
        }

        void put(int i, int word) {
            if (i >= 0 && i < count) {
                row[i] = word;
            }
        }

        /** At least 1, so that whoever goes through a list by it comes to the end. */
        int lengthAt(int at) {
            int code = word(at);
            return isCommand(code) ? LENGTHS[code] : 1;
        }

        static boolean isCommand(int code) {
            return code >= SAVE && code <= PLAIN;
        }

        void cutTo(int length) {
            if (length >= 0 && length < count) {
                count = length;
            }
        }

        void copyFrom(Words other) {
            System.arraycopy(other.row, 0, row, 0, other.count);
            count = other.count;
        }

        void moveDown(int from, int to, int length) {
            for (int k = 0; k < length && to < from; k++) {
                put(to + k, word(from + k));
            }
        }

        /** Where the last FILL is, or -1. */
        int lastFill() {
            int last = -1;
            for (int at = 0; at < count; at += lengthAt(at)) {
                if (row[at] == FILL) {
                    last = at;
                }
            }
            return last;
        }

        /** The first COMMAND behind the one at this place that is in the set of bits, or 0 if the end comes first. */
        int firstBehind(int at, int set) {
            for (int next = at + lengthAt(at); next < count; next += lengthAt(next)) {
                int code = word(next);
                if ((set & (1 << code)) != 0) {
                    return code;
                }
            }
            return 0;
        }
    }

    /** Looks a list over and finds its first FAULT. */
    private static final class Checker {
        private static final int LENGTH_BOUND = 67108864;
        private static final int CLIP_BOUND = 1000000;
        private static final int MAX_WAY = 4;
        private static final int NO_COMMAND = 1, WORDS_MISSING = 2, OUT_OF_BOUNDS = 3, NOTHING_SAVED = 4;
        private static final int TOO_MANY_OPEN = 5, NO_OUTLINE = 6, TOO_MANY_LINES = 7, OPEN_AT_END = 8;

        private int place;
        private int open;
        private int lines;
        private boolean begun;

        int lookOver(Words list) {
            open = 0;
            lines = 0;
            begun = false;
            for (place = 0; place < list.count; place += list.lengthAt(place)) {
                int fault = faultOfWords(list, place);
                if (fault == 0) {
                    fault = faultOfOrder(list.word(place));
                }
                if (fault != 0) {
                    return fault;
                }
            }
            return open > 0 ? OPEN_AT_END : 0;
        }

        private static int faultOfWords(Words list, int at) {
            if (!Words.isCommand(list.word(at))) {
                return NO_COMMAND;
            }
            if (list.lengthAt(at) > list.count - at) {
                return WORDS_MISSING;
            }
            return withinBounds(list, at) ? 0 : OUT_OF_BOUNDS;
        }

        private static boolean withinBounds(Words list, int at) {
            switch (list.word(at)) {
                case BEGIN:
                case LINE:
                case CURVE:
                case BOX:
                    return allBelow(list, at + 1, at + list.lengthAt(at), LENGTH_BOUND);
                case FILL:
                    return isWithin(list.word(at + 1), 1);
                case WAY:
                    return isWithin(list.word(at + 1), MAX_WAY);
                case CLIP:
                    return allBelow(list, at + 1, at + 3, CLIP_BOUND)
                            && isWithin(list.word(at + 3), CLIP_BOUND) && isWithin(list.word(at + 4), CLIP_BOUND);
                default:
                    return true;
            }
        }

        private static boolean allBelow(Words list, int from, int to, int bound) {
            for (int i = from; i < to; i++) {
                int word = list.word(i);
                if (word <= -bound || word >= bound) {
                    return false;
                }
            }
            return true;
        }

        private static boolean isWithin(int word, int most) {
            return word >= 0 && word <= most;
        }

        private int faultOfOrder(int code) {
            switch (code) {
                case SAVE:
                    open++;
                    return open > MAX_OPEN ? TOO_MANY_OPEN : 0;
                case BRING_BACK:
                    open--;
                    return open < 0 ? NOTHING_SAVED : 0;
                case PATH:
                    lines = 0;
                    begun = false;
                    return 0;
                case BEGIN:
                    begun = true;
                    return 0;
                case BOX:
                    begun = true;
                    return faultOfLines(4);
                case LINE:
                case CLOSE:
                    return faultOfLines(1);
                case CURVE:
                    return faultOfLines(Path.CURVE_PARTS);
                default:
                    return 0;
            }
        }

        private int faultOfLines(int more) {
            if (!begun) {
                return NO_OUTLINE;
            }
            lines += more;
            return lines > MAX_LINES ? TOO_MANY_LINES : 0;
        }
    }

    /** Six numbers with sixteen bits behind the point that turn, scale and shift points. */
    private static final class Table {
        private static final int FARTHEST = 1 << 30;

        private int a, b, c, d, e, f;

        void becomePlain() {
            a = UNIT;
            b = 0;
            c = 0;
            d = UNIT;
            e = 0;
            f = 0;
        }

        void copyFrom(Table other) {
            a = other.a;
            b = other.b;
            c = other.c;
            d = other.d;
            e = other.e;
            f = other.f;
        }

        void readFrom(Words list, int at) {
            a = list.word(at + 1);
            b = list.word(at + 2);
            c = list.word(at + 3);
            d = list.word(at + 4);
            e = list.word(at + 5);
            f = list.word(at + 6);
        }

        void writeTo(Words list, int at) {
            list.put(at + 1, a);
            list.put(at + 2, b);
            list.put(at + 3, c);
            list.put(at + 4, d);
            list.put(at + 5, e);
            list.put(at + 6, f);
        }

        boolean isSameAs(Table other) {
            return a == other.a && b == other.b && c == other.c && d == other.d && e == other.e && f == other.f;
        }

        int sendX(int x, int y) {
            return held(rounded((long) a * x + (long) c * y) + e);
        }

        int sendY(int x, int y) {
            return held(rounded((long) b * x + (long) d * y) + f);
        }

        /** This one, behind the next one. Sums may pass 64 bits, but only in bits that the 32 kept ones never see. */
        void goBehind(Table next) {
            int newA = (int) rounded((long) a * next.a + (long) c * next.b);
            int newB = (int) rounded((long) b * next.a + (long) d * next.b);
            int newC = (int) rounded((long) a * next.c + (long) c * next.d);
            int newD = (int) rounded((long) b * next.c + (long) d * next.d);
            e += (int) rounded((long) a * next.e + (long) c * next.f);
            f += (int) rounded((long) b * next.e + (long) d * next.f);
            a = newA;
            b = newB;
            c = newC;
            d = newD;
        }

        boolean isWhole() {
            return ((a | b | c | d | e | f) & (UNIT - 1)) == 0;
        }

        /** Of two whole ones: whether goBehind wraps nowhere. */
        boolean fitsBehind(Table next) {
            long wholeA = a >> 16, wholeB = b >> 16, wholeC = c >> 16, wholeD = d >> 16;
            return fits(wholeA * next.a + wholeC * next.b) && fits(wholeB * next.a + wholeD * next.b)
                    && fits(wholeA * next.c + wholeC * next.d) && fits(wholeB * next.c + wholeD * next.d)
                    && fits(wholeA * next.e + wholeC * next.f + e) && fits(wholeB * next.e + wholeD * next.f + f);
        }

        private static boolean fits(long number) {
            return number == (int) number;
        }

        private static long rounded(long number) {
            return (number + HALF) >> 16;
        }

        private static int held(long number) {
            if (number > FARTHEST) {
                return FARTHEST;
            }
            return number < -FARTHEST ? -FARTHEST : (int) number;
        }
    }

    /** A box of pixels: from (x, y) on, up to before (endX, endY). */
    private static final class Clip {
        private int x, y, endX, endY;

        void become(int newX, int newY, int newEndX, int newEndY) {
            x = newX;
            y = newY;
            endX = newEndX;
            endY = newEndY;
        }

        void copyFrom(Clip other) {
            become(other.x, other.y, other.endX, other.endY);
        }

        void narrowBy(Words list, int at) {
            int left = list.word(at + 1), top = list.word(at + 2);
            become(Math.max(x, left), Math.max(y, top),
                    Math.min(endX, left + list.word(at + 3)), Math.min(endY, top + list.word(at + 4)));
            if (x >= endX || y >= endY) {
                become(0, 0, 0, 0);
            }
        }

        boolean isSameAs(Clip other) {
            return x == other.x && y == other.y && endX == other.endX && endY == other.endY;
        }
    }

    /** What SAVE keeps and BRING BACK brings back. */
    private static final class Settings {
        private final Table table = new Table();
        private final Clip clip = new Clip();
        private int colour;
        private int way;

        void becomeFirst(Sheet sheet) {
            table.becomePlain();
            clip.become(0, 0, sheet.w, sheet.h);
            colour = BLACK;
            way = 0;
        }

        void copyFrom(Settings other) {
            table.copyFrom(other.table);
            clip.copyFrom(other.clip);
            colour = other.colour;
            way = other.way;
        }
    }

    /** The outlines, as points that a TABLE has sent already. */
    private static final class Path {
        static final int CURVE_PARTS = 8;

        private final int[] xs = new int[MAX_POINTS];
        private final int[] ys = new int[MAX_POINTS];
        private final boolean[] begins = new boolean[MAX_POINTS];
        private int points;
        private int lines;
        private int first;
        // Curves are reckoned from points as they were told, so these are kept beside the sent ones.
        private int firstToldX, firstToldY, lastToldX, lastToldY;
        private int leastX, leastY, greatestY;

        void becomeEmpty() {
            points = 0;
            lines = 0;
            first = 0;
        }

        boolean isBegun() {
            return points > 0;
        }

        void begin(int x, int y, Table table) {
            first = points;
            firstToldX = x;
            firstToldY = y;
            lastToldX = x;
            lastToldY = y;
            addPoint(table.sendX(x, y), table.sendY(x, y), true);
        }

        void lineTo(int x, int y, Table table) {
            lastToldX = x;
            lastToldY = y;
            lines++;
            addPoint(table.sendX(x, y), table.sendY(x, y), false);
        }

        void curve(int x, int y, int u, int v, Table table) {
            int fromX = lastToldX, fromY = lastToldY;
            for (int k = 1; k <= CURVE_PARTS; k++) {
                lineTo(onCurve(fromX, x, u, k), onCurve(fromY, y, v, k), table);
            }
        }

        private static int onCurve(long from, long by, long to, int k) {
            int rest = CURVE_PARTS - k;
            return (int) ((from * (rest * rest) + by * (2 * k * rest) + to * (k * k) + 32) >> 6);
        }

        void close() {
            lastToldX = firstToldX;
            lastToldY = firstToldY;
            lines++;
            if (first < points) {
                addPoint(xs[first], ys[first], false);
            }
        }

        void box(int x, int y, int endX, int endY, Table table) {
            begin(x, y, table);
            lineTo(endX, y, table);
            lineTo(endX, endY, table);
            lineTo(x, endY, table);
            close();
        }

        private void addPoint(int x, int y, boolean isBegin) {
            if (points >= MAX_POINTS) {
                return;
            }
            leastX = points == 0 ? x : Math.min(leastX, x);
            leastY = points == 0 ? y : Math.min(leastY, y);
            greatestY = points == 0 ? y : Math.max(greatestY, y);
            xs[points] = x;
            ys[points] = y;
            begins[points] = isBegin;
            points++;
        }

        /** Where the line that starts at this point goes; the outline's last point goes to where it began. */
        int endOfLine(int from, int outline) {
            int next = from + 1;
            return next < points && !begins[next] ? next : outline;
        }

        /** Whether no pixel of the CLIP can be gone round, by the bounds of all points alone. */
        boolean misses(Clip clip) {
            if (points == 0) {
                return true;
            }
            int from = Math.max(clip.y, Filler.firstMiddle(leastY));
            int to = Math.min(clip.endY, Filler.firstMiddle(greatestY));
            return from >= to || Filler.firstMiddle(leastX) >= clip.endX;
        }
    }

    /** W by H PIXELS, row by row. */
    private static final class Sheet {
        private final int w, h;
        private final int[] pixels;

        Sheet(int w, int h) {
            this.w = side(w);
            this.h = side(h);
            pixels = new int[this.w * this.h];
        }

        private static int side(int asked) {
            return Math.max(1, Math.min(MAX_SIDE, asked));
        }

        boolean holds(int x, int y) {
            return x >= 0 && x < w && y >= 0 && y < h;
        }

        int at(int x, int y) {
            return holds(x, y) ? pixels[y * w + x] : 0;
        }

        void put(int x, int y, int pixel) {
            if (holds(x, y)) {
                pixels[y * w + x] = pixel;
            }
        }

        void cover(int pixel) {
            Arrays.fill(pixels, pixel);
        }

        int total() {
            int s = 1;
            for (int i = 0; i < pixels.length; i++) {
                s = 31 * s + pixels[i];
            }
            return s;
        }
    }

    /** How a COLOUR is laid on a PIXEL. */
    private static final class Paint {
        private static final int OVER = 0, REPLACE = 1, MULTIPLY = 2, ADD = 3, DIFFER = 4;

        static int laid(int colour, int under, int way) {
            if (way == REPLACE) {
                return colour;
            }
            int a = colour >>> 24;
            // COVER goes as a byte of 255 would, but the ways that look at both bytes leave it out.
            int cover = laidByte(255, under >>> 24, a, way == ADD ? ADD : OVER);
            int red = laidByte(colour >>> 16 & 255, under >>> 16 & 255, a, way);
            int green = laidByte(colour >>> 8 & 255, under >>> 8 & 255, a, way);
            int blue = laidByte(colour & 255, under & 255, a, way);
            return cover << 24 | red << 16 | green << 8 | blue;
        }

        private static int laidByte(int s, int t, int a, int way) {
            switch (way) {
                case MULTIPLY:
                    return per255(per255(s * t) * a + t * (255 - a));
                case ADD:
                    return Math.min(255, t + per255(s * a));
                case DIFFER:
                    return per255(Math.abs(s - t) * a + t * (255 - a));
                default:
                    return per255(s * a + t * (255 - a));
            }
        }

        private static int per255(int number) {
            return (number + 127) / 255;
        }
    }

    /** Finds the pixels whose middle a path goes round, and paints them. */
    private static final class Filler {
        private final Sheet sheet;
        // In each row: how the count of turns changes at a pixel, seen from the left. All 0 between two fills.
        private final int[] changes = new int[MAX_SIDE * MAX_SIDE];

        Filler(Sheet sheet) {
            this.sheet = sheet;
        }

        /** How many pixels were painted. */
        int fill(Path path, Settings settings, int rule) {
            int outline = 0;
            for (int i = 0; i < path.points; i++) {
                if (path.begins[i]) {
                    outline = i;
                }
                addLine(path, i, path.endOfLine(i, outline), settings.clip);
            }
            int painted = 0;
            for (int y = settings.clip.y; y < settings.clip.endY; y++) {
                painted += paintRow(y, settings, rule);
            }
            return painted;
        }

        private void addLine(Path path, int from, int to, Clip clip) {
            boolean down = path.ys[from] < path.ys[to];
            int upper = down ? from : to;
            int lower = down ? to : from;
            int startRow = Math.max(clip.y, firstMiddle(path.ys[upper]));
            int endRow = Math.min(clip.endY, firstMiddle(path.ys[lower]));
            for (int row = startRow; row < endRow; row++) {
                int column = Math.max(clip.x, firstColumn(path, upper, lower, row));
                if (column < clip.endX) {
                    change(row, column, down ? 1 : -1);
                }
            }
        }

        /** The first pixel of the row that has the line not to the right of its middle. */
        private static int firstColumn(Path path, int upper, int lower, int row) {
            long height = (long) path.ys[lower] - path.ys[upper];
            if (height <= 0) {
                return MAX_SIDE;
            }
            long across = (long) path.xs[lower] - path.xs[upper];
            long down = (long) row * UNIT + HALF - path.ys[upper];
            // Rounded up: a middle is a whole number, so it lies right of the line just if right of this.
            long passes = path.xs[upper] - Math.floorDiv(-(down * across), height);
            return firstMiddle((int) passes);
        }

        /** The first pixel, along either side, whose middle is not before this LENGTH. */
        static int firstMiddle(int length) {
            return (length + HALF - 1) >> 16;
        }

        private void change(int row, int column, int by) {
            int i = row * MAX_SIDE + column;
            if (i >= 0 && i < changes.length) {
                changes[i] += by;
            }
        }

        private int paintRow(int y, Settings settings, int rule) {
            int painted = 0;
            int turns = 0;
            for (int x = settings.clip.x; x < settings.clip.endX; x++) {
                turns += takeChange(y, x);
                if (rule == 0 ? turns != 0 : (turns & 1) != 0) {
                    sheet.put(x, y, Paint.laid(settings.colour, sheet.at(x, y), settings.way));
                    painted++;
                }
            }
            return painted;
        }

        private int takeChange(int row, int column) {
            int i = row * MAX_SIDE + column;
            if (i < 0 || i >= changes.length) {
                return 0;
            }
            int by = changes[i];
            changes[i] = 0;
            return by;
        }
    }

    /** Does the COMMANDS of a list that was looked over. */
    private static final class Machine {
        private static final int COUNT_BITS = (1 << 30) - 1;

        private final Sheet sheet;
        private final Filler filler;
        private final Path path = new Path();
        private final Settings now = new Settings();
        private final Table nextTable = new Table();
        private final Settings[] saved = new Settings[MAX_OPEN];
        private int open;
        private int place;
        private int fills;
        private int painted;

        Machine(Sheet sheet, Filler filler) {
            this.sheet = sheet;
            this.filler = filler;
            for (int i = 0; i < MAX_OPEN; i++) {
                saved[i] = new Settings();
            }
        }

        void restart() {
            place = 0;
            open = 0;
            now.becomeFirst(sheet);
            path.becomeEmpty();
        }

        void forgetCounts() {
            fills = 0;
            painted = 0;
        }

        /** Whether all COMMANDS were done. */
        boolean run(Words list, int most) {
            restart();
            boolean goesOn = true;
            for (int done = 0; goesOn && done < most; done++) {
                goesOn = doNext(list);
            }
            return place >= list.count;
        }

        /** Whether there was a COMMAND to do. */
        boolean doNext(Words list) {
            if (place >= list.count) {
                return false;
            }
            int at = place;
            place += list.lengthAt(at);
            if (list.word(at) == FILL) {
                int count = filler.fill(path, now, list.word(at + 1));
                fills += count > 0 ? 1 : 0;
                painted = (painted + count) & COUNT_BITS;
            } else {
                follow(list, at);
            }
            return true;
        }

        /** Does a COMMAND but for what it paints. */
        void follow(Words list, int at) {
            int x = list.word(at + 1), y = list.word(at + 2);
            switch (list.word(at)) {
                case SAVE:
                    save();
                    break;
                case BRING_BACK:
                    bringBack();
                    break;
                case PATH:
                    path.becomeEmpty();
                    break;
                case BEGIN:
                    path.begin(x, y, now.table);
                    break;
                case LINE:
                    path.lineTo(x, y, now.table);
                    break;
                case CURVE:
                    path.curve(x, y, list.word(at + 3), list.word(at + 4), now.table);
                    break;
                case CLOSE:
                    path.close();
                    break;
                case BOX:
                    path.box(x, y, x + list.word(at + 3), y + list.word(at + 4), now.table);
                    break;
                case COLOUR:
                    now.colour = list.word(at + 1);
                    break;
                case WAY:
                    now.way = list.word(at + 1);
                    break;
                case TABLE:
                    nextTable.readFrom(list, at);
                    now.table.goBehind(nextTable);
                    break;
                case CLIP:
                    now.clip.narrowBy(list, at);
                    break;
                case PLAIN:
                    now.table.becomePlain();
                    break;
                default:
                    break;
            }
        }

        private void save() {
            if (open < MAX_OPEN) {
                saved[open].copyFrom(now);
                open++;
            }
        }

        private void bringBack() {
            if (open > 0) {
                open--;
                now.copyFrom(saved[open]);
            }
        }

        int told(int what) {
            switch (what) {
                case 1:
                    return place;
                case 3:
                    return open;
                case 4:
                    return now.colour;
                case 5:
                    return now.way;
                case 16:
                    return path.lines;
                case 17:
                    return fills;
                case 18:
                    return painted;
                default:
                    return what < 10 ? toldOfClip(what) : toldOfTable(what);
            }
        }

        private int toldOfClip(int what) {
            switch (what) {
                case 6:
                    return now.clip.x;
                case 7:
                    return now.clip.y;
                case 8:
                    return now.clip.endX;
                case 9:
                    return now.clip.endY;
                default:
                    return NOT_TOLD;
            }
        }

        private int toldOfTable(int what) {
            switch (what) {
                case 10:
                    return now.table.a;
                case 11:
                    return now.table.b;
                case 12:
                    return now.table.c;
                case 13:
                    return now.table.d;
                case 14:
                    return now.table.e;
                case 15:
                    return now.table.f;
                default:
                    return NOT_TOLD;
            }
        }
    }

    /** Makes a list that was looked over SHORTER, by the document's rules A to I. */
    private static final class Shortener {
        private static final int RULE_A = 0, RULE_B = 1, RULE_C = 2, RULE_D = 3, RULE_E = 4;
        private static final int RULE_F = 5, RULE_G = 6, RULE_H = 7, RULE_I = 8;
        private static final int EMPTY_SAVE_LENGTH = 2;
        private static final int PATH_OR_FILL = 1 << PATH | 1 << FILL;
        private static final int ENDS_OF_PAINT = 1 << FILL | 1 << SAVE | 1 << BRING_BACK;
        private static final int ENDS_OF_PLACING = 1 << BEGIN | 1 << LINE | 1 << CURVE | 1 << CLOSE | 1 << BOX
                | 1 << FILL | 1 << SAVE | 1 << BRING_BACK;

        private final Words list;
        // It follows only what stays, so it always has the state of the list as it is then.
        private final Machine machine;
        private final Clip clip = new Clip();
        private final Table table = new Table();
        private final Table next = new Table();
        private int lastFill;
        private int openedBehind;
        private int joinedAt;

        Shortener(Words list, Machine machine) {
            this.list = list;
            this.machine = machine;
        }

        void shorten() {
            boolean changes = true;
            // Whatever changes a list takes words from it, so there are never more rounds than words, and one.
            for (int round = 0; changes && round <= MAX_WORDS; round++) {
                int before = list.count;
                for (int rule = RULE_A; rule <= RULE_I; rule++) {
                    goThrough(rule);
                }
                changes = list.count < before;
            }
        }

        private void goThrough(int rule) {
            machine.restart();
            lastFill = list.lastFill();
            openedBehind = 0;
            joinedAt = -1;
            int kept = 0;
            int step;
            for (int at = 0; at < list.count; at += step) {
                step = list.lengthAt(at);
                if (at != joinedAt && goes(rule, at, list.word(at))) {
                    step = rule == RULE_I ? EMPTY_SAVE_LENGTH : step;
                } else {
                    machine.follow(list, at);
                    list.moveDown(at, kept, step);
                    kept += step;
                }
            }
            list.cutTo(kept);
        }

        private boolean goes(int rule, int at, int code) {
            switch (rule) {
                case RULE_A:
                    return at > lastFill && goesBehindFills(code);
                case RULE_B:
                    return code == FILL && machine.path.misses(machine.now.clip);
                case RULE_C:
                    return code >= BEGIN && code <= BOX && list.firstBehind(at, PATH_OR_FILL) != FILL;
                case RULE_D:
                    return code == PATH && !machine.path.isBegun();
                case RULE_E:
                    return isIdlePaint(at, code);
                case RULE_F:
                    return code == CLIP && isIdleClip(at);
                case RULE_G:
                    return isIdleTable(at, code) || joinsNext(at, code);
                case RULE_H:
                    return code >= TABLE && code <= PLAIN && isBroughtBackUnused(at);
                default:
                    return isEmptySave(at, code);
            }
        }

        private boolean goesBehindFills(int code) {
            if (code == SAVE) {
                openedBehind++;
            }
            if (code == BRING_BACK && openedBehind == 0) {
                return false;
            }
            if (code == BRING_BACK) {
                openedBehind--;
            }
            return true;
        }

        private boolean isIdlePaint(int at, int code) {
            if (code != COLOUR && code != WAY) {
                return false;
            }
            int current = code == COLOUR ? machine.now.colour : machine.now.way;
            if (list.word(at + 1) == current) {
                return true;
            }
            int end = list.firstBehind(at, ENDS_OF_PAINT | 1 << code);
            return end != FILL && end != SAVE;
        }

        private boolean isIdleClip(int at) {
            clip.copyFrom(machine.now.clip);
            clip.narrowBy(list, at);
            return clip.isSameAs(machine.now.clip);
        }

        private boolean isIdleTable(int at, int code) {
            if (code != TABLE && code != PLAIN) {
                return false;
            }
            table.becomePlain();
            if (code == TABLE) {
                next.readFrom(list, at);
                table.copyFrom(machine.now.table);
                table.goBehind(next);
            }
            return table.isSameAs(machine.now.table);
        }

        /** If it can be, the second of two TABLES becomes what comes of both, so that the first one goes. */
        private boolean joinsNext(int at, int code) {
            int second = at + list.lengthAt(at);
            if (code != TABLE || list.word(second) != TABLE) {
                return false;
            }
            table.readFrom(list, at);
            next.readFrom(list, second);
            if (!table.isWhole() || !next.isWhole() || !table.fitsBehind(next)) {
                return false;
            }
            table.goBehind(next);
            table.writeTo(list, second);
            joinedAt = second;
            return true;
        }

        private boolean isBroughtBackUnused(int at) {
            int end = list.firstBehind(at, ENDS_OF_PLACING);
            return end == BRING_BACK || end == 0;
        }

        private boolean isEmptySave(int at, int code) {
            return code == SAVE && list.word(at + 1) == BRING_BACK;
        }
    }
}
