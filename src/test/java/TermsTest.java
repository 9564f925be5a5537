import java.util.Arrays;

/** The terms, a test for each sentence with a boundary: SHEET, LENGTH, COMMANDS, FAULTS, TABLE, FILL, painting. */
public final class TermsTest {
  private static final int U = Check.U, HALF = Check.HALF;
  private static final int FAR = 67108863;
  private static final int HELD = 1 << 30;
  private static final int LEAST = Check.LEAST, MOST = Check.MOST;
  private static final int[] BEGIN = {4, 0, 0};

  private static void due(String call, long got, long want) {
    Check.due(call, got, want);
  }

  private static void shows(String what, ListPainter x, String... rows) {
    Check.shows(what, x, rows);
  }

  private static ListPainter done(int w, int h, int... words) {
    return Check.done(w, h, words);
  }

  private static void samePicture(String what, ListPainter x, ListPainter y) {
    due(what + ": sum()", x.sum(), y.sum());
  }

  /** A COMMAND 4 or 5 of just this point, by the TABLE alone, so that it may be farther than words can tell. */
  private static int[] sent(int command, int x, int y) {
    return Check.of(14, 12, U, 0, 0, U, x, y, command, 0, 0);
  }

  // ---- the SHEET

  static void sheet_xIsFromTheLeftAndYFromAbove() {
    shows("a box at (2, 0)", done(3, 2, 8, 2 * U, 0, U, U, 9, 0), "..#", "...");
    shows("a box at (0, 1)", done(3, 2, 8, 0, U, U, U, 9, 0), "...", "#..");
  }

  static void sheet_theLeastAndTheLargest() {
    due("one pixel", done(1, 1, 8, 0, 0, U, U, 9, 0).state(18), 1);
    due("1,024 pixels", done(32, 32, 8, 0, 0, 32 * U, 32 * U, 9, 0).state(18), 1024);
    due("1,024 pixels of a larger box", done(32, 32, 8, -U, -U, 99 * U, 99 * U, 9, 0).state(18), 1024);
    ListPainter x = done(32, 32, 8, 31 * U, 31 * U, U, U, 9, 0);
    due("the last one", x.pixel(31, 31), Check.BLACK);
    due("the last one alone", x.state(18), 1);
  }

  // ---- a LENGTH, and what is rounded

  /** A TABLE's number that is one LENGTH's least bit, behind another one, tells how that one is rounded. */
  private static int rounded(int n) {
    return done(1, 1, 12, 1, 0, 0, U, 0, 0, 12, n, 0, 0, U, 0, 0).state(10);
  }

  static void length_halvesAreRoundedUp() {
    due("32767", rounded(32767), 0);
    due("32768", rounded(32768), 1);
    due("65536", rounded(65536), 1);
    due("98303", rounded(98303), 1);
    due("98304", rounded(98304), 2);
    due("the most", rounded(MOST), 32768);
  }

  static void length_belowNoughtItIsCutOffDownwards() {
    due("-1", rounded(-1), 0);
    due("-32768", rounded(-32768), 0);
    due("-32769", rounded(-32769), -1);
    due("-65536", rounded(-65536), -1);
    due("-98304", rounded(-98304), -1);
    due("-98305", rounded(-98305), -2);
    due("the least", rounded(LEAST), -32768);
  }

  // ---- COMMANDS 1 and 2: SAVE, BRING BACK

  static void save_allFourAreBroughtBack() {
    ListPainter x = Check.ready(8, 8, 12, 2 * U, 1, 2, 3 * U, 4, 5, 13, 1, 2, 3, 4, 10, 5, 11, 2,
        1, 12, U, U, U, U, U, U, 13, 2, 3, 1, 1, 10, 6, 11, 3, 2);
    x.render(4);
    int[] before = Check.look(x);
    x.render(9);
    due("the COLOUR in it", x.state(4), 6);
    due("one()", x.one(), 0);
    int[] now = Check.look(x);
    for (int what = 3; what <= 18; what++) {
      due("state(" + what + ")", now[what], before[what]);
    }
  }

  static void save_thePathIsNotBroughtBack() {
    shows("a path told in it stays", done(2, 1, 1, 8, 0, 0, U, U, 2, 9, 0), "#.");
    shows("a PATH in it stays", done(2, 1, 8, 0, 0, U, U, 1, 3, 2, 9, 0), "..");
    due("LINES", done(2, 1, 1, 8, 0, 0, U, U, 2).state(16), 4);
    Check.noFault("an outline begun in it", 1, 4, 0, 0, 2, 7);
  }

  static void save_eachBringsBackItsOwn() {
    int[] words = {};
    for (int i = 1; i <= 8; i++) {
      words = Check.join(words, Check.of(10, i, 1));
    }
    words = Check.join(words, Check.of(10, 99), Check.times(8, 2));
    ListPainter x = Check.ready(2, 2, words);
    x.render(17);
    due("COLOUR in eight", x.state(4), 99);
    for (int i = 8; i >= 1; i--) {
      due("one()", x.one(), 0);
      due("COLOUR of SAVE " + i, x.state(4), i);
      due("SAVES that are open", x.state(3), i - 1);
    }
  }

  static void save_oneBehindAnotherBringsBackItsOwn() {
    ListPainter x = Check.ready(2, 2, 1, 10, 1, 2, 10, 2, 1, 10, 3, 2);
    int[] colours = {Check.BLACK, 1, Check.BLACK, 2, 2, 3, 2};
    for (int colour : colours) {
      x.one();
      due("COLOUR", x.state(4), colour);
    }
  }

  // ---- COMMAND 3: PATH

  static void path_itIsEmpty() {
    ListPainter x = done(2, 1, 8, 0, 0, U, U, 3, 9, 0);
    shows("PATH and FILL", x, "..");
    due("LINES", x.state(16), 0);
    due("FILLS", x.state(17), 0);
    shows("only what is told behind it", done(3, 1, 8, 0, 0, U, U, 3, 8, 2 * U, 0, U, U, 9, 0), "..#");
  }

  static void path_nothingIsBegun() {
    Check.fault("LINE behind PATH", 6, 4, 4, 0, 0, 3, 5, 0, 0);
    Check.fault("CURVE behind PATH", 6, 6, 8, 0, 0, 0, 0, 3, 6, 0, 0, 0, 0);
    Check.fault("CLOSE behind PATH", 6, 4, 4, 0, 0, 3, 7);
    Check.noFault("LINE behind PATH and BEGIN", 4, 0, 0, 3, 4, 0, 0, 5, 0, 0);
  }

  static void path_allElseStays() {
    ListPainter x = Check.ready(8, 8, 1, 12, 2 * U, 1, 2, 3 * U, 4, 5, 13, 1, 2, 3, 4, 10, 5, 11, 2, 3, 2);
    x.render(5);
    int[] before = Check.look(x);
    x.one();
    before[1]++;
    Check.unchanged("PATH", before, x);
  }

  // ---- COMMANDS 4 and 5: BEGIN, LINE

  static void begin_aNewOutlineLeavesTheOldOneClosed() {
    shows("two triangles", done(6, 3, 4, 0, 0, 5, 0, 3 * U, 5, 3 * U, 3 * U, 4, 3 * U, 0, 5, 6 * U, 0, 5, 6 * U, 3 * U,
        9, 0), "...###", "#...##", "##...#");
  }

  static void begin_alonePaintsNothing() {
    due("one", done(3, 3, 4, HALF, HALF, 9, 0).state(17), 0);
    due("two", done(3, 3, 4, 0, 0, 4, U, 3 * U, 9, 1).state(17), 0);
    due("500, in a full list but one word", done(3, 3, Check.join(Check.times(499, 4, U, U), Check.of(9, 0))).state(17), 0);
  }

  static void begin_isNoLine() {
    due("LINES", done(2, 2, 4, 0, 0, 4, 1, 1).state(16), 0);
    Check.noFault("behind 300", Check.join(BEGIN, Check.times(300, 7), BEGIN));
  }

  static void line_aloneGoesThereAndBackAndPaintsNothing() {
    due("FILL 0", done(3, 3, 4, 0, 0, 5, 3 * U, 3 * U, 9, 0).state(17), 0);
    due("FILL 1", done(3, 3, 4, 0, 0, 5, 0, 3 * U, 9, 1).state(17), 0);
  }

  // ---- COMMAND 6: CURVE

  /** The lines of a curve from (0, 0), of which x was reckoned by hand, and y goes on by 8 each time. */
  private static int[] asLines(int... xs) {
    int[] lines = BEGIN;
    for (int k = 1; k <= 8; k++) {
      lines = Check.join(lines, Check.of(5, xs[k - 1], 8 * k));
    }
    return lines;
  }

  /** Scaled so that one of the least bits is half a pixel, and seen at several places between two middles. */
  private static long seen(int[] path, boolean across) {
    long all = 0;
    for (int shift = 1; shift < U; shift += 6553) {
      int[] table = across ? Check.of(12, MOST, 0, 0, MOST, 8 * U + shift, 1) : Check.of(12, 0, MOST, MOST, 0, 1, 8 * U + shift);
      ListPainter x = done(32, 32, Check.join(table, path, Check.of(5, -40, 64, 5, -40, 0, 9, 0)));
      all = all * 1000003 + x.sum();
    }
    return all;
  }

  /** A number of the first point and of the second one, and what comes of them and of a last point at 0. */
  private static void curveRounds(int by, int to, int... want) {
    String what = "by " + by + " to " + to;
    int[] curve = Check.join(BEGIN, Check.of(6, by, 32, to, 64));
    due(what + ", x", seen(curve, true), seen(asLines(want), true));
    due(what + ", y", seen(curve, false), seen(asLines(want), false));
    for (int k = 0; k < 7; k++) {
      int[] other = want.clone();
      other[k]--;
      due(what + ", is point " + (k + 1) + " seen", seen(curve, true) != seen(asLines(other), true) ? 1 : 0, 1);
    }
  }

  /** The first point's parts are 14, 24, 30, 32, 30, 24, 14 and 0 of 64. */
  static void curve_halvesAreRoundedUp() {
    curveRounds(1, 0, 0, 0, 0, 1, 0, 0, 0, 0);
    curveRounds(3, 0, 1, 1, 1, 2, 1, 1, 1, 0);
    curveRounds(7, 0, 2, 3, 3, 4, 3, 3, 2, 0);
  }

  static void curve_belowNoughtHalvesAreRoundedUpToo() {
    curveRounds(-1, 0, 0, 0, 0, 0, 0, 0, 0, 0);
    curveRounds(-3, 0, -1, -1, -1, -1, -1, -1, -1, 0);
    curveRounds(-7, 0, -2, -3, -3, -3, -3, -3, -2, 0);
  }

  /** The second point's parts are 1, 4, 9, 16, 25, 36, 49 and 64 of 64. */
  static void curve_lessThanAHalfIsCutOff() {
    curveRounds(0, 31, 0, 2, 4, 8, 12, 17, 24, 31);
    curveRounds(0, 32, 1, 2, 5, 8, 13, 18, 25, 32);
    curveRounds(0, -11, 0, -1, -2, -3, -4, -6, -8, -11);
  }

  /** From (0, 0) by (8 U, 0) to (8 U, 8 U): x is U k (16 - k) / 8 and y is U k k / 8. */
  static void curve_eightLines() {
    int[] lines = {};
    for (int k = 1; k <= 8; k++) {
      lines = Check.join(lines, Check.of(5, U * k * (16 - k) / 8, U * k * k / 8));
    }
    ListPainter x = done(8, 8, Check.join(BEGIN, Check.of(6, 8 * U, 0, 8 * U, 8 * U, 5, 0, 8 * U, 9, 0)));
    samePicture("a curve and its lines", x, done(8, 8, Check.join(BEGIN, lines, Check.of(5, 0, 8 * U, 9, 0))));
    due("LINES", x.state(16), 9);
    shows("the curve", x, "###.....", "#####...", "######..", "#######.", "#######.", "########", "########", "########");
  }

  static void curve_theLastPointIsTheSecondOne() {
    shows("a LINE behind it", done(4, 2, 4, 0, 0, 6, 2 * U, 0, 4 * U, 0, 5, 4 * U, 2 * U, 5, 0, 2 * U, 9, 0), "####", "####");
    shows("a CURVE behind it", done(4, 2, 4, 0, 0, 6, 2 * U, 0, 4 * U, 0, 6, 4 * U, U, 4 * U, 2 * U, 5, 0, 2 * U, 9, 0),
        "####", "####");
  }

  static void curve_fromTheLastPointAsItWasTold() {
    int[] shift = {12, U, 0, 0, U, 2 * U, 0};
    shows("behind BEGIN", done(4, 2, Check.join(BEGIN, shift, Check.of(6, 0, U, 0, 2 * U, 5, 2 * U, 2 * U, 5, 2 * U, 0, 9, 0))),
        "..##", "..##");
    samePicture("behind LINE", done(8, 8, Check.join(shift, BEGIN, Check.of(5, U, U, 14, 6, 4 * U, 0, 8 * U, 8 * U, 9, 0))),
        done(8, 8, Check.join(Check.of(4, 2 * U, 0, 5, 3 * U, U), linesFrom(U, U), Check.of(9, 0))));
    samePicture("behind CURVE", done(8, 8, Check.join(shift, BEGIN, Check.of(6, 0, 0, U, U, 14, 6, 4 * U, 0, 8 * U, 8 * U, 9, 0))),
        done(8, 8, Check.join(shift, BEGIN, Check.of(6, 0, 0, U, U, 14), linesFrom(U, U), Check.of(9, 0))));
  }

  /** A CURVE from this point by (4 U, 0) to (8 U, 8 U). */
  private static int[] linesFrom(int x, int y) {
    int[] lines = {};
    for (int k = 1; k <= 8; k++) {
      int rest = (8 - k) * (8 - k);
      lines = Check.join(lines, Check.of(5, (x * rest + 4 * U * 2 * k * (8 - k) + 8 * U * k * k) / 64, (y * rest + 8 * U * k * k) / 64));
    }
    return lines;
  }

  static void curve_behindCloseItIsFromWhereTheOutlineBegan() {
    samePicture("CLOSE and CURVE", done(8, 8, 4, U, 2 * U, 5, 2 * U, 4 * U, 5, 0, 5 * U, 7, 6, 4 * U, 0, 8 * U, 8 * U, 9, 0),
        done(8, 8, Check.join(Check.of(4, U, 2 * U, 5, 2 * U, 4 * U, 5, 0, 5 * U, 5, U, 2 * U), linesFrom(U, 2 * U), Check.of(9, 0))));
    samePicture("BOX and CURVE", done(8, 8, 8, U, 3 * U, -U, 3 * U, 6, 4 * U, 0, 8 * U, 8 * U, 9, 0),
        done(8, 8, Check.join(Check.of(8, U, 3 * U, -U, 3 * U), linesFrom(U, 3 * U), Check.of(9, 0))));
    // CLOSE goes to the point as it was sent, and yet the CURVE goes from it as it was told.
    samePicture("another TABLE", done(8, 8, 12, U, 0, 0, U, U, U, 4, 0, U, 5, U, 4 * U, 14, 7, 6, 4 * U, 0, 8 * U, 8 * U, 9, 0),
        done(8, 8, Check.join(Check.of(4, U, 2 * U, 5, 2 * U, 5 * U, 5, U, 2 * U), linesFrom(0, U), Check.of(9, 0))));
  }

  static void curve_ofTheFarthestPoints() {
    shows("along the height", done(4, 3, 4, 0, -FAR, 6, 0, 0, 0, FAR, 5, 2 * U, FAR, 5, 2 * U, -FAR, 9, 0),
        "##..", "##..", "##..");
    shows("along both", done(4, 4, 4, -FAR, -FAR, 6, 0, 0, FAR, FAR, 5, -FAR, FAR, 9, 0), "....", "#...", "##..", "###.");
    due("all in one point", done(4, 4, 4, FAR, -FAR, 6, FAR, -FAR, FAR, -FAR, 9, 0).state(17), 0);
  }

  // ---- COMMAND 7: CLOSE

  static void close_theLastPointIsWhereTheOutlineBegan() {
    shows("LINES go on from there", done(4, 2, 4, 0, 0, 5, U, 0, 5, U, U, 5, 0, U, 7, 5, 4 * U, 0, 5, 4 * U, 2 * U,
        5, 0, 2 * U, 9, 1), ".###", "####");
  }

  static void close_itGoesToThePointAsItWasSent() {
    shows("another TABLE", done(3, 2, 4, 0, 0, 5, U, 0, 5, U, 2 * U, 12, U, 0, 0, U, U, 0, 5, -U, 2 * U, 7, 9, 0),
        "#..", "#..");
    shows("a LINE behind it", done(3, 2, 12, U, 0, 0, U, 2 * U, 0, 4, 0, 0, 14, 7, 5, 3 * U, 0, 5, 3 * U, 2 * U, 5, 2 * U, 2 * U,
        9, 0), "..#", "..#");
  }

  static void close_rightBehindBegin() {
    ListPainter x = done(2, 2, 4, 0, 0, 7, 9, 0);
    due("LINES", x.state(16), 1);
    due("FILLS", x.state(17), 0);
  }

  static void close_twiceIsTwoLines() {
    ListPainter x = done(2, 1, 4, 0, 0, 5, U, 0, 5, U, U, 5, 0, U, 7, 7, 9, 0);
    due("LINES", x.state(16), 5);
    shows("the same picture", x, "#.");
  }

  static void close_itEndsOnlyTheOutlineThatWasBegunLast() {
    shows("behind a second BEGIN", done(4, 1, 4, 0, 0, 5, U, 0, 5, U, U, 5, 0, U, 4, 2 * U, 0, 5, 3 * U, 0, 5, 3 * U, U,
        5, 2 * U, U, 7, 5, 4 * U, 0, 9, 0), "#.#.");
  }

  // ---- COMMAND 8: BOX

  static void box_withoutWidthOrHeight() {
    int[][] boxes = {{8, 0, 0, 0, 3 * U}, {8, 0, 0, 3 * U, 0}, {8, HALF, HALF, 0, 0}};
    for (int[] box : boxes) {
      ListPainter x = done(3, 3, Check.join(box, Check.of(9, 0)));
      due("FILLS", x.state(17), 0);
      due("LINES", x.state(16), 4);
    }
  }

  static void box_widthAndHeightBelowNought() {
    shows("width", done(4, 2, 8, 3 * U, 0, -2 * U, U, 9, 0), ".##.", "....");
    shows("height", done(4, 2, 8, 0, 2 * U, U, -U, 9, 0), "....", "#...");
    shows("both", done(4, 2, 8, 3 * U, 2 * U, -2 * U, -U, 9, 1), "....", ".##.");
  }

  static void box_theFarEndMayBeFartherThanALength() {
    due("far on the right", done(2, 2, 8, FAR, FAR, FAR, FAR, 9, 0).state(17), 0);
    due("far on the left", done(2, 2, 8, -FAR, -FAR, -FAR, -FAR, 9, 0).state(17), 0);
    shows("all of it", done(2, 2, 8, -1, -1, FAR, FAR, 9, 0), "##", "##");
    // By half, (x + w) is just a pixel's middle, which is out.
    shows("half of it", done(2, 1, 12, 1, 0, 0, U, 0, 0, 8, FAR, 0, FAR, U, 8, -FAR, 0, -FAR, U, 9, 0), "..");
    shows("by a table", done(3, 1, 12, 64, 0, 0, U, 0, 0, 8, 0, 0, FAR, U, 9, 0), "#..");
    shows("by a table, twice as far", done(3, 1, 12, 64, 0, 0, U, -U, 0, 8, FAR, 0, FAR, U, 9, 0), "#..");
  }

  static void box_theLastPointIsItsFirstOne() {
    shows("LINES behind it", done(4, 2, 8, U, 0, -U, U, 5, 3 * U, 0, 5, 3 * U, 2 * U, 5, U, 2 * U, 9, 0), "###.", ".##.");
  }

  // ---- COMMAND 9: FILL

  static void fill_thePathStays() {
    ListPainter x = done(3, 1, 8, 0, 0, U, U, 9, 0, 8, 2 * U, 0, U, U, 10, -1, 9, 0);
    shows("both", x, "#.#");
    due("the first one, painted again", x.pixel(0, 0), -1);
    shows("a LINE behind FILL", done(2, 2, 4, 0, 0, 5, 2 * U, 0, 9, 0, 5, 2 * U, 2 * U, 5, 0, 2 * U, 9, 0), "##", "##");
  }

  // ---- COMMAND 13: CLIP

  private static void clip(String what, ListPainter x, int... want) {
    for (int i = 0; i < 4; i++) {
      due(what + ": state(" + (6 + i) + ")", x.state(6 + i), want[i]);
    }
  }

  static void clip_whatLiesInBothStays() {
    clip("one", done(9, 8, 13, 2, 3, 4, 5), 2, 3, 6, 8);
    clip("two", done(9, 8, 13, 2, 3, 4, 5, 13, 5, 1, 9, 3), 5, 3, 6, 4);
    clip("a smaller one in it", done(9, 8, 13, 1, 1, 7, 7, 13, 3, 3, 2, 2), 3, 3, 5, 5);
    clip("a larger one around it", done(9, 8, 13, 3, 3, 2, 2, 13, 1, 1, 7, 7), 3, 3, 5, 5);
  }

  static void clip_theSheetIsTheFirstOne() {
    clip("at first", done(9, 8), 0, 0, 9, 8);
    clip("a larger one", done(9, 8, 13, -1, -1, 99, 99), 0, 0, 9, 8);
    clip("the same one", done(9, 8, 13, 0, 0, 9, 8), 0, 0, 9, 8);
    clip("the farthest ones", done(9, 8, 13, -999999, -999999, 1000000, 1000000), 0, 0, 1, 1);
    clip("the largest ones", done(9, 8, 13, -5, 7, 1000000, 1000000), 0, 7, 9, 8);
  }

  static void clip_ifNothingStaysItIs0000() {
    int[][] none = {{13, 1, 1, 0, 3}, {13, 1, 1, 3, 0}, {13, 9, 0, 1, 1}, {13, 0, 8, 1, 1}, {13, -3, 0, 3, 3}, {13, 0, -3, 3, 3},
        {13, 999999, 999999, 1000000, 1000000}, {13, -999999, -999999, 0, 0}, {13, -999999, 0, 999999, 1}};
    for (int[] one : none) {
      clip(Arrays.toString(one), done(9, 8, one), 0, 0, 0, 0);
    }
    clip("two side by side", done(9, 8, 13, 2, 2, 2, 2, 13, 4, 2, 2, 2), 0, 0, 0, 0);
    clip("two upon each other", done(9, 8, 13, 2, 2, 2, 2, 13, 2, 0, 2, 2), 0, 0, 0, 0);
  }

  static void clip_ofNothingNothingStays() {
    clip("a larger one behind it", done(9, 8, 13, 1, 1, 0, 0, 13, 0, 0, 9, 8), 0, 0, 0, 0);
    clip("BRING BACK", done(9, 8, 1, 13, 1, 1, 0, 0, 2), 0, 0, 9, 8);
    due("FILLS", done(9, 8, 13, 1, 1, 0, 0, 8, 0, 0, 9 * U, 9 * U, 9, 0).state(17), 0);
  }

  static void clip_theFirstAndTheLastPixelInIt() {
    shows("in the midst", done(4, 4, 13, 1, 2, 2, 1, 8, 0, 0, 4 * U, 4 * U, 9, 0), "....", "....", ".##.", "....");
    shows("one pixel", done(4, 2, 13, 3, 1, 1, 1, 8, 0, 0, 4 * U, 4 * U, 9, 1), "....", "...#");
    shows("a path from left of it", done(4, 1, 13, 2, 0, 1, 1, 8, -U, 0, 9 * U, U, 9, 0), "..#.");
    shows("a path left of it", done(4, 1, 13, 2, 0, 1, 1, 8, 0, 0, 2 * U, U, 9, 0), "....");
  }

  static void clip_itIsInPixelsWhateverTheTable() {
    clip("with a TABLE", done(9, 8, 12, 2 * U, 0, 0, 2 * U, U, U, 13, 1, 1, 2, 2), 1, 1, 3, 3);
  }

  // ---- COMMAND 14: PLAIN

  static void plain_theTableIsAsAtFirst() {
    ListPainter x = done(4, 4, 12, 5, 6, 7, 8, 9, 10, 14);
    int[] want = {U, 0, 0, U, 0, 0};
    for (int i = 0; i < 6; i++) {
      due("state(" + (10 + i) + ")", x.state(10 + i), want[i]);
    }
    ListPainter inSave = done(4, 4, 12, 5, 6, 7, 8, 9, 10, 1, 14, 2);
    due("BRING BACK", inSave.state(10), 5);
  }

  // ---- FAULTS

  static void fault1_noC() {
    int[] none = {0, 15, -1, 16, 256, LEAST, MOST};
    for (int c : none) {
      Check.fault("C " + c, 1, 0, c);
      Check.fault("C " + c + " behind others", 1, 3, 3, 10, 0, c, 3);
    }
  }

  static void fault2_wordsAreMissing() {
    int[] more = {0, 0, 0, 0, 2, 2, 4, 0, 4, 1, 1, 1, 6, 4, 0};
    for (int c = 1; c <= 14; c++) {
      for (int words = 0; words <= more[c]; words++) {
        int[] list = Check.join(BEGIN, Check.of(1), Check.of(c), new int[words], c == 2 ? Check.of() : Check.of(2));
        if (words == more[c]) {
          Check.noFault(c + " with all words", c == 1 ? Check.join(list, Check.of(2)) : list);
        } else {
          Check.fault(c + " with " + words + " more", 2, 4, Arrays.copyOf(list, 5 + words));
        }
      }
    }
  }

  static void fault2_atTheEndOfAFullList() {
    Check.fault("the last word", 2, 1499, Check.join(Check.times(1499, 3), Check.of(9)));
    Check.fault("the last six words", 2, 1494, Check.join(Check.times(1494, 3), Check.of(12, 0, 0, 0, 0, 0)));
    Check.noFault("the last seven words", Check.join(Check.times(1493, 3), Check.of(12, 0, 0, 0, 0, 0, 0)));
  }

  static void fault3_lengthsBelow67108864InSize() {
    int[] commands = {4, 5, 6, 8};
    int[] more = {2, 2, 4, 4};
    for (int i = 0; i < commands.length; i++) {
      for (int word = 1; word <= more[i]; word++) {
        int[] list = Check.join(BEGIN, Check.of(commands[i]), new int[more[i]]);
        int[] right = {FAR, -FAR, 0}, tooFar = {FAR + 1, -FAR - 1, LEAST, MOST};
        for (int value : right) {
          list[3 + word] = value;
          Check.noFault("word " + word + " of " + commands[i] + " is " + value, list);
        }
        for (int value : tooFar) {
          list[3 + word] = value;
          Check.fault("word " + word + " of " + commands[i] + " is " + value, 3, 3, list);
        }
      }
    }
  }

  private static void bounds(int command, int word, int more, int least, int most) {
    int[] list = Check.join(Check.of(3, command), new int[more]);
    int[] right = {least, 0, most}, tooFar = {least - 1, most + 1, LEAST, MOST};
    for (int value : right) {
      list[1 + word] = value;
      Check.noFault("word " + word + " of " + command + " is " + value, list);
    }
    for (int value : tooFar) {
      list[1 + word] = value;
      Check.fault("word " + word + " of " + command + " is " + value, 3, 1, list);
    }
  }

  static void fault3_rIs0Or1() {
    bounds(9, 1, 1, 0, 1);
  }

  static void fault3_mIs0To4() {
    bounds(11, 1, 1, 0, 4);
  }

  static void fault3_aClipsXAndYBelow1000000InSize() {
    bounds(13, 1, 4, -999999, 999999);
    bounds(13, 2, 4, -999999, 999999);
  }

  static void fault3_aClipsWidthAndHeightAre0To1000000() {
    bounds(13, 3, 4, 0, 1000000);
    bounds(13, 4, 4, 0, 1000000);
  }

  static void fault3_coloursAndTablesHaveNoBounds() {
    int[] values = {LEAST, MOST, -1, 0};
    for (int value : values) {
      Check.noFault("COLOUR " + value, 10, value);
      for (int word = 1; word <= 6; word++) {
        int[] list = {12, 0, 0, 0, 0, 0, 0};
        list[word] = value;
        Check.noFault("word " + word + " of TABLE is " + value, list);
      }
    }
  }

  static void fault3_onlyTheCommandsOwnWordsAreLookedAt() {
    int[][] commands = {{4, 0, 0}, {5, 0, 0}, {6, 0, 0, 0, 0}, {8, 0, 0, 0, 0}, {9, 0}, {11, 0}, {13, 0, 0, 0, 0}};
    int[] great = {10, LEAST}, table = {12, MOST, LEAST, MOST, LEAST, MOST, LEAST};
    for (int[] command : commands) {
      Check.noFault("great words before and behind " + command[0], Check.join(BEGIN, great, command, great, table, command, table));
    }
  }

  static void fault4_bringBackWithoutSave() {
    Check.fault("at first", 4, 0, 2);
    Check.fault("behind as many SAVES", 4, 2, 1, 2, 2);
    Check.fault("behind eight", 4, 16, Check.join(Check.times(8, 1), Check.times(9, 2)));
    Check.noFault("as many as SAVES", 1, 1, 2, 1, 2, 2);
  }

  static void fault5_theNinthSaveThatIsOpen() {
    Check.fault("the ninth", 5, 8, Check.join(Check.times(9, 1), Check.times(9, 2)));
    Check.fault("the ninth behind others", 5, 12, Check.join(Check.of(1, 2, 1, 2), Check.times(9, 1)));
    Check.noFault("eight at once", Check.join(Check.times(8, 1), Check.times(8, 2)));
    Check.noFault("the ninth, but one was brought back", Check.join(Check.times(8, 1), Check.of(2, 1), Check.times(8, 2)));
    Check.noFault("750, one behind the other", Check.times(750, 1, 2));
  }

  static void fault6_anOutlineIsWanted() {
    Check.fault("LINE", 6, 0, 5, 0, 0);
    Check.fault("CURVE", 6, 2, 10, 0, 6, 0, 0, 0, 0);
    Check.fault("CLOSE", 6, 1, 3, 7);
    Check.noFault("behind BEGIN", 4, 0, 0, 5, 0, 0, 6, 0, 0, 0, 0, 7);
    Check.noFault("behind BOX", 8, 0, 0, 0, 0, 5, 0, 0);
    Check.noFault("behind CLOSE", 4, 0, 0, 7, 7, 5, 0, 0);
    Check.noFault("behind FILL", 4, 0, 0, 9, 0, 5, 0, 0);
    Check.noFault("FILL wants none", 9, 0);
  }

  static void fault7_the301stLine() {
    int[] lines = {1, 8, 1, 4};
    int[][] commands = {{5, 0, 0}, {6, 0, 0, 0, 0}, {7}, {8, 0, 0, 0, 0}};
    for (int i = 0; i < commands.length; i++) {
      int[] most = Check.join(BEGIN, Check.times(300 - lines[i], 7), commands[i]);
      Check.noFault("300 with " + commands[i][0], most);
      int[] tooMany = Check.join(BEGIN, Check.times(301 - lines[i], 7), commands[i]);
      Check.fault("301 with " + commands[i][0], 7, 3 + 301 - lines[i], tooMany);
    }
    Check.noFault("300 LINES", Check.join(BEGIN, Check.times(300, 5, 1, 1)));
    Check.noFault("37 CURVES and 4", Check.join(BEGIN, Check.times(37, 6, 1, 1, 2, 2), Check.times(4, 7)));
    Check.fault("38 CURVES", 7, 188, Check.join(BEGIN, Check.times(38, 6, 1, 1, 2, 2)));
    Check.noFault("75 BOXES", Check.times(75, 8, 0, 0, 1, 1));
    Check.fault("76 BOXES", 7, 375, Check.times(76, 8, 0, 0, 1, 1));
  }

  static void fault7_theyAreCountedSincePath() {
    int[] most = Check.join(BEGIN, Check.times(300, 7));
    Check.noFault("PATH between", Check.join(most, Check.of(3), most));
    Check.fault("no PATH between", 7, 303 + 3, Check.join(most, most));
    Check.fault("FILL between", 7, 303 + 2, Check.join(most, Check.of(9, 0, 7)));
    Check.fault("BRING BACK between", 7, 304 + 1, Check.join(Check.of(1), most, Check.of(2, 7)));
    Check.fault("a second PATH's", 7, 303 + 1 + 303, Check.join(most, Check.of(3), most, Check.of(7)));
  }

  static void fault8_aSaveOpenAtTheEnd() {
    Check.fault("one word", 8, 1, 1);
    Check.fault("one of two", 8, 5, 1, 1, 10, 1, 2);
    Check.fault("eight", 8, 8, Check.times(8, 1));
    Check.fault("a full list", 8, 1500, Check.join(Check.of(1), Check.times(1499, 3)));
    Check.fault("words that are missing come first", 2, 1, 1, 10);
  }

  static void faults_ofOneCommandTheLeastNumber() {
    Check.fault("2 before 3", 2, 0, 4, FAR + 1);
    Check.fault("2 before 6", 2, 0, 5, 0);
    Check.fault("3 before 6", 3, 0, 5, 0, FAR + 1);
    Check.fault("3 before 7", 3, 303, Check.join(BEGIN, Check.times(300, 7), Check.of(5, 0, FAR + 1)));
  }

  // ---- the TABLE

  private static void table(String what, ListPainter x, int... want) {
    for (int i = 0; i < 6; i++) {
      due(what + ": state(" + (10 + i) + ")", x.state(10 + i), want[i]);
    }
  }

  static void table_theOldOneBehindTheNewOne() {
    table("turned, then scaled", done(4, 4, 12, 0, U, -U, 0, 7, 8, 12, 2 * U, 0, 0, 3 * U, U, 2 * U),
        0, 2 * U, -3 * U, 0, 7 - 2 * U, 8 + U);
    table("twelve numbers", done(4, 4, 12, 2 * U, 3 * U, 5 * U, 7 * U, 11, 13, 12, 17, 19, 23, 29, 31, 37),
        2 * 17 + 5 * 19, 3 * 17 + 7 * 19, 2 * 23 + 5 * 29, 3 * 23 + 7 * 29, 2 * 31 + 5 * 37 + 11, 3 * 31 + 7 * 37 + 13);
  }

  static void table_eachNumberIsRounded() {
    table("halves", done(4, 4, 12, 1, -1, 0, 0, 0, 0, 12, HALF, 0, -HALF, 0, 3 * HALF, 0), 1, 0, 0, 1, 2, -1);
    table("halves of the others", done(4, 4, 12, 0, 0, 1, -1, 5, 7, 12, 0, HALF, 0, -HALF, 0, 3 * HALF),
        1, 0, 0, 1, 2 + 5, -1 + 7);
    table("less than halves", done(4, 4, 12, 1, -1, 0, 0, 0, 0, 12, HALF - 1, 0, -HALF - 1, 0, 1, 0), 0, 0, -1, 1, 0, 0);
    table("only the sum of two is rounded", done(4, 4, 12, 1, 1, 1, 1, 0, 0, 12, HALF / 2, HALF / 2, HALF, HALF, HALF - 1, 1),
        1, 1, 1, 1, 1, 1);
  }

  static void table_theyWrapIn32Bits() {
    int[] twice = {12, 2 * U, 0, 0, 2 * U, 0, 0};
    table("a and d", done(4, 4, Check.join(twice, Check.of(12, HELD, 0, 0, -HELD, 0, 0))), LEAST, 0, 0, LEAST, 0, 0);
    table("b and c", done(4, 4, Check.join(twice, Check.of(12, 0, HELD + 1, -HELD - 1, 0, 0, 0))), 0, LEAST + 2, MOST - 1, 0, 0, 0);
    table("e and f", done(4, 4, Check.join(twice, Check.of(12, U, 0, 0, U, HELD, MOST))), 2 * U, 0, 0, 2 * U, LEAST, -2);
    table("e' and f' bring them over", done(4, 4, 12, U, 0, 0, U, MOST, LEAST, 12, U, 0, 0, U, 1, -1), U, 0, 0, U, LEAST, MOST);
  }

  static void table_whatIsRoundedDoesNotWrap() {
    // Each product alone has more than 32 bits; of the sum of two just 2^63 has more than 64.
    table("48 bits", done(4, 4, 12, MOST, 0, 0, LEAST, 0, 0, 12, HALF, 0, 0, HALF, U, 3 * U),
        HELD, 0, 0, -HELD, MOST, LEAST);
    table("2^63", done(4, 4, 12, LEAST, LEAST, LEAST, LEAST, 5, 6, 12, LEAST, LEAST, LEAST, LEAST, LEAST, LEAST), 0, 0, 0, 0, 5, 6);
    table("next to -2^63", done(4, 4, 12, LEAST, MOST, LEAST, MOST, 0, 0, 12, MOST, MOST, LEAST, LEAST, MOST, MOST),
        U, -2 * U, 0, U, U, -2 * U);
  }

  static void table_pointsGoByTheOneThatIsThere() {
    shows("a TABLE behind the path", done(4, 2, 8, 0, 0, U, U, 12, U, 0, 0, U, 2 * U, U, 9, 0), "#...", "....");
    shows("a TABLE before it", done(4, 2, 12, U, 0, 0, U, 2 * U, U, 8, 0, 0, U, U, 9, 0), "....", "..#.");
    shows("a TABLE in the midst", done(4, 1, 4, 0, 0, 5, 0, U, 12, U, 0, 0, U, 2 * U, 0, 5, U, U, 5, U, 0, 9, 0), "###.");
    shows("turned", done(4, 4, 12, 0, U, -U, 0, 4 * U, 0, 8, 0, 0, U, 3 * U, 9, 0), ".###", "....", "....", "....");
  }

  /** A box from this x on, halved and shifted: its left edge is at the first pixel's middle or past it. */
  private static String leftEdge(int x, int shift) {
    return done(1, 1, 12, HALF, 0, 0, U, shift, 0, 8, x, 0, 4 * U, U, 9, 0).pixel(0, 0) != 0 ? "in" : "past";
  }

  private static void edge(String what, String got, String want) {
    due(what + " is " + want, got.equals(want) ? 1 : 0, 1);
  }

  static void table_aPointsNumbersAreRoundedHalfUp() {
    edge("0", leftEdge(0, HALF), "in");
    edge("1 / 2, which is 1", leftEdge(1, HALF), "past");
    edge("- 1 / 2, which is 0", leftEdge(-1, HALF + 1), "past");
    edge("- 2 / 2, which is - 1", leftEdge(-2, HALF + 1), "in");
    edge("- 3 / 2, which is - 1", leftEdge(-3, HALF + 2), "past");
    edge("3 / 2, which is 2", leftEdge(3, HALF - 1), "past");
    edge("2 / 2, which is 1", leftEdge(2, HALF - 1), "in");
  }

  /** From (0, 0) down to the right by a half: the far point is on this line just if it was held, or not held, rightly. */
  static void table_xIsHeldAt2To30() {
    String[] rows = {"....", "#...", "##..", "###."};
    int[] xs = {HELD, HELD + 1, MOST};
    for (int x : xs) {
      shows("x " + x, done(4, 4, Check.join(sent(4, 0, 0), sent(5, x, HELD), sent(5, 0, HELD), Check.of(9, 0))), rows);
    }
    // Here the line passes less than half of the least bit right of a middle, farther left it would pass left of it.
    int[] from = sent(4, -1073157118, -819200), back = sent(5, -HELD, 1277947);
    shows("not less", done(8, 4, Check.join(from, sent(5, HELD, 1277947), back, Check.of(9, 0))),
        "........", "........", "........", "#####...");
    shows("one less", done(8, 4, Check.join(from, sent(5, HELD - 1, 1277947), back, Check.of(9, 0))),
        "........", "........", "........", "####....");
  }

  static void table_xIsHeldAtMinus2To30() {
    String[] rows = {"########", "########", "########", "#####..."};
    int[] xs = {-HELD, -HELD - 1, LEAST};
    for (int x : xs) {
      shows("x " + x, done(8, 4, Check.join(sent(4, 1070250093, -819200), sent(5, x, 1281952), sent(5, -HELD, -819200),
          Check.of(9, 0))), rows);
    }
    // Down by one and to the left by two, through middles: from one bit farther right it would pass right of them.
    int c = 8 * U + HALF, y = (HELD + c) / 2;
    int[] start = sent(4, c, 0), back = sent(5, c, y);
    shows("not more", done(8, 4, Check.join(start, sent(5, -HELD, y), back, Check.of(9, 0))),
        ".......#", ".....###", "...#####", ".#######");
    shows("one more", done(8, 4, Check.join(start, sent(5, -HELD + 1, y), back, Check.of(9, 0))),
        "........", "......##", "....####", "..######");
  }

  static void table_yIsHeldAt2To30() {
    int[] right = Check.join(sent(4, 0, 0), sent(5, HELD, HELD), sent(5, 0, HELD), Check.of(9, 0));
    shows("not less", done(4, 4, right), "....", "#...", "##..", "###.");
    int[] less = Check.join(sent(4, 0, 0), sent(5, HELD, HELD - 1), sent(5, 0, HELD), Check.of(9, 0));
    shows("one less", done(4, 4, less), "#...", "##..", "###.", "####");
    int[] ys = {HELD, HELD + 1, MOST};
    for (int y : ys) {
      shows("y " + y, done(4, 4, Check.join(sent(4, 4 * U, 0), sent(5, 4 * U - HELD, y), sent(5, 4 * U, HELD), Check.of(9, 0))),
          "...#", "..##", ".###", "####");
    }
  }

  /** Up by two and to the side by one, from a half pixel below the last row. */
  static void table_yIsHeldAtMinus2To30() {
    int s = 4 * U + HALF, far = (s + HELD) / 2;
    int[] ys = {-HELD, -HELD - 1, LEAST};
    for (int y : ys) {
      shows("y " + y + ", to the left",
          done(4, 4, Check.join(sent(4, 4 * U, s), sent(5, 4 * U - far, y), sent(5, 4 * U, -HELD), Check.of(9, 0))),
          "..##", "..##", "...#", "...#");
      shows("y " + y + ", to the right",
          done(4, 4, Check.join(sent(4, 0, s), sent(5, far, y), sent(5, 0, -HELD), Check.of(9, 0))),
          "##..", "#...", "#...", "....");
    }
  }

  static void table_pointsOfTheLargestNumbers() {
    shows("all of it", done(2, 2, 12, MOST, 0, 0, MOST, 0, 0, 8, -FAR, -FAR, FAR, FAR, 8, 0, 0, FAR, FAR, 9, 0), "##", "##");
    shows("turned about", done(2, 2, 12, LEAST, 0, 0, LEAST, 0, 0, 8, FAR, FAR, -FAR, -FAR, 8, 0, 0, -FAR, -FAR, 9, 0), "##", "##");
    due("all in one corner", done(2, 2, 12, MOST, MOST, MOST, MOST, MOST, MOST, 8, FAR, FAR, FAR, FAR, 9, 0).state(17), 0);
  }

  // ---- FILL: which pixels

  static void fill_aMiddleAtTheUpperEdgeIsInAtTheLowerOut() {
    shows("a box from middle to middle", done(3, 3, 8, 0, HALF, 3 * U, U, 9, 0), "###", "...", "...");
    shows("one bit lower", done(3, 3, 8, 0, HALF + 1, 3 * U, U, 9, 0), "...", "###", "...");
    shows("one bit higher", done(3, 3, 8, 0, HALF - 1, 3 * U, U, 9, 0), "###", "...", "...");
    shows("one bit more", done(3, 3, 8, 0, HALF, 3 * U, U + 1, 9, 0), "###", "###", "...");
  }

  static void fill_aMiddleAtTheLeftEdgeIsInAtTheRightOut() {
    shows("a box from middle to middle", done(3, 2, 8, HALF, 0, U, 2 * U, 9, 0), "#..", "#..");
    shows("one bit farther right", done(3, 2, 8, HALF + 1, 0, U, 2 * U, 9, 0), ".#.", ".#.");
    shows("one bit farther left", done(3, 2, 8, HALF - 1, 0, U, 2 * U, 9, 0), "#..", "#..");
    shows("one bit more", done(3, 2, 8, HALF, 0, U + 1, 2 * U, 9, 0), "##.", "##.");
  }

  static void fill_aLineThroughMiddlesCounts() {
    shows("down to the right, left edge", done(4, 4, 4, 0, 0, 5, 4 * U, 4 * U, 5, 4 * U, 0, 9, 0), "####", ".###", "..##", "...#");
    shows("down to the right, right edge", done(4, 4, 4, 0, 0, 5, 4 * U, 4 * U, 5, 0, 4 * U, 9, 0), "....", "#...", "##..", "###.");
    shows("down to the left, right edge", done(4, 4, 4, 4 * U, 0, 5, 0, 4 * U, 5, 0, 0, 9, 0), "###.", "##..", "#...", "....");
    shows("down to the left, left edge", done(4, 4, 4, 4 * U, 0, 5, 0, 4 * U, 5, 4 * U, 4 * U, 9, 0), "...#", "..##", ".###", "####");
  }

  /** The line is at a middle's height by a third of the least bit right or left of the middle. */
  static void fill_aLineNextToAMiddle() {
    int y = HALF - 1;
    shows("a third to the right", done(1, 1, 4, HALF, y, 5, HALF + 1, y + 3, 5, 2 * U, y + 3, 5, 2 * U, y, 9, 0), ".");
    shows("a third to the left", done(1, 1, 4, HALF, y, 5, HALF - 1, y + 3, 5, 2 * U, y + 3, 5, 2 * U, y, 9, 0), "#");
    shows("a third to the right, upwards", done(1, 1, 4, HALF + 1, y + 3, 5, HALF, y, 5, 2 * U, y, 5, 2 * U, y + 3, 9, 0), ".");
    shows("a third to the left, upwards", done(1, 1, 4, HALF - 1, y + 3, 5, HALF, y, 5, 2 * U, y, 5, 2 * U, y + 3, 9, 0), "#");
  }

  static void fill_aPointAtAMiddlesHeight() {
    // Left of the middle: a line goes on through this height, or turns back at it, upwards or downwards.
    int[] rest = {5, 2 * U, U, 5, 2 * U, 0, 9, 0};
    shows("goes on", done(1, 1, Check.join(Check.of(4, 0, 0, 5, 1, HALF, 5, 0, U), rest)), "#");
    shows("turns back from above", done(1, 1, 4, 0, 0, 5, 1, HALF, 5, 2, 0, 9, 0), ".");
    shows("turns back from below", done(1, 1, 4, 0, U, 5, 1, HALF, 5, 2, U, 9, 0), ".");
    shows("turns back at the middle from below", done(1, 1, 4, 0, U, 5, HALF, HALF, 5, U, U, 9, 0), ".");
    shows("turns back at the middle from above", done(1, 1, 4, 0, 0, 5, HALF, HALF, 5, U, 0, 9, 0), ".");
    shows("turns back one bit above the middle", done(1, 1, 4, 0, U, 5, HALF, HALF - 1, 5, U, U, 9, 0), "#");
    shows("turns back one bit below the middle", done(1, 1, 4, 0, 0, 5, HALF, HALF + 1, 5, U, 0, 9, 0), "#");
  }

  static void fill_aLevelLineCountsNot() {
    shows("through the middle", done(2, 1, 4, 0, HALF, 5, 2 * U, HALF, 9, 0), "..");
    shows("as the lower edge", done(2, 1, 4, 0, 0, 5, 2 * U, 0, 5, 2 * U, HALF, 5, 0, HALF, 9, 0), "..");
    shows("as the upper edge", done(2, 1, 4, 0, HALF, 5, 2 * U, HALF, 5, 2 * U, U, 5, 0, U, 9, 0), "##");
  }

  private static final int[] DOWN_LEFT = {8, 0, 0, U, U}, DOWN_RIGHT = {8, U, 0, -U, U};

  private static String filled(int rule, int left, int right) {
    ListPainter x = done(1, 1, Check.join(Check.times(left, DOWN_LEFT), Check.times(right, DOWN_RIGHT), Check.of(9, rule)));
    return x.pixel(0, 0) != 0 ? "in" : "past";
  }

  static void fill_with0TheSumMustNotBe0() {
    edge("no turn", filled(0, 0, 0), "past");
    edge("one turn", filled(0, 1, 0), "in");
    edge("one turn the other way", filled(0, 0, 1), "in");
    edge("two turns", filled(0, 2, 0), "in");
    edge("two turns the other way", filled(0, 0, 2), "in");
    edge("one turn each way", filled(0, 1, 1), "past");
    edge("37 turns each way", filled(0, 37, 37), "past");
    edge("38 turns and 37", filled(0, 38, 37), "in");
    edge("75 turns", filled(0, 75, 0), "in");
  }

  static void fill_with1TheSumMustBeOdd() {
    edge("no turn", filled(1, 0, 0), "past");
    edge("one turn", filled(1, 1, 0), "in");
    edge("one turn the other way", filled(1, 0, 1), "in");
    edge("two turns", filled(1, 2, 0), "past");
    edge("two turns the other way", filled(1, 0, 2), "past");
    edge("three turns the other way", filled(1, 0, 3), "in");
    edge("one turn each way", filled(1, 1, 1), "past");
    edge("two turns and one", filled(1, 2, 1), "in");
    edge("75 turns the other way", filled(1, 0, 75), "in");
    edge("74 turns", filled(1, 74, 0), "past");
  }

  static void fill_outlinesAreCountedTogether() {
    shows("of the same sense", done(3, 1, 8, 0, 0, 2 * U, U, 8, U, 0, 2 * U, U, 9, 0), "###");
    shows("of both senses", done(3, 1, 8, 0, 0, 2 * U, U, 8, 3 * U, 0, -2 * U, U, 9, 0), "#.#");
    shows("odd", done(3, 1, 8, 0, 0, 2 * U, U, 8, U, 0, 2 * U, U, 9, 1), "#.#");
  }

  static void fill_anOutlineClosesByItself() {
    shows("a triangle", done(4, 3, 4, 0, 0, 5, 3 * U, 0, 5, 3 * U, 3 * U, 9, 0), "###.", ".##.", "..#.");
    shows("told so", done(4, 3, 4, 0, 0, 5, 3 * U, 0, 5, 3 * U, 3 * U, 7, 9, 0), "###.", ".##.", "..#.");
    shows("it is no LINE", done(4, 3, 4, 0, 0, 5, 3 * U, 0, 5, 3 * U, 3 * U, 9, 0, 5, 0, 3 * U, 9, 0), "###.", "###.", "###.");
  }

  static void fill_anEmptyPathPaintsNothing() {
    ListPainter x = done(2, 2, 9, 0, 9, 1, 3, 9, 0);
    due("FILLS", x.state(17), 0);
    due("sum()", x.sum(), new ListPainter(2, 2).sum());
  }

  static void fill_pathsOutsideOfTheSheet() {
    int[][] boxes = {{8, -3 * U, 0, 3 * U, 2 * U}, {8, 2 * U, 0, 3 * U, 2 * U}, {8, 0, -3 * U, 2 * U, 3 * U}, {8, 0, 2 * U, 2 * U, 3 * U},
        {8, -FAR, 0, U, 2 * U}, {8, 0, FAR, 2 * U, U}};
    for (int[] box : boxes) {
      due(Arrays.toString(box), done(2, 2, Check.join(box, Check.of(9, 0))).state(17), 0);
    }
    shows("around it", done(2, 2, 8, -FAR, -FAR, FAR, FAR, 8, -U, -U, FAR, FAR, 9, 0), "##", "##");
  }

  static void fill_aPathOfOneBitsHeightOrWidth() {
    shows("from the middle down", done(1, 1, 8, 0, HALF, U, 1, 9, 0), "#");
    shows("down to the middle", done(1, 1, 8, 0, HALF - 1, U, 1, 9, 0), ".");
    shows("from the middle to the right", done(1, 1, 8, HALF, 0, 1, U, 9, 0), "#");
    shows("right to the middle", done(1, 1, 8, HALF - 1, 0, 1, U, 9, 0), ".");
    shows("slanting", done(1, 1, 4, 0, HALF, 5, U, HALF + 1, 5, 0, HALF + 1, 9, 0), ".");
    shows("slanting the other way", done(1, 1, 4, U, HALF, 5, 0, HALF + 1, 5, 0, HALF, 9, 0), "#");
  }

  /** 373 points alone and 75 BOXES: more a list can't hold. */
  static void fill_aPathOfTheMostPoints() {
    int[] words = Check.join(Check.times(373, 4, 0, 2 * U), Check.times(74, 8, 0, 0, 0, U), Check.of(8, U, 0, U, U, 9, 0));
    due("words", words.length, 1496);
    shows("the last BOX", done(3, 2, words), ".#.", "...");
  }

  /** Two outlines of 149 and 151 LINES, each a comb of teeth. */
  static void fill_aPathOf300Lines() {
    int[] comb = {4, 0, 0};
    for (int i = 0; i < 149; i++) {
      comb = Check.join(comb, Check.of(5, (i % 2) * U, U));
    }
    comb = Check.join(comb, Check.of(4, 0, U));
    for (int i = 0; i < 148; i++) {
      comb = Check.join(comb, Check.of(5, 2 * U * (i % 2), U));
    }
    ListPainter x = done(4, 2, Check.join(comb, Check.of(5, 2 * U, 2 * U, 5, 0, 2 * U, 7, 9, 0)));
    due("LINES", x.state(16), 300);
    shows("the last outline", x, "....", "##..");
  }

  // ---- Painting

  private static int painted(int under, int colour, int way) {
    ListPainter x = Check.ready(1, 1, 11, way, 10, colour, 8, 0, 0, U, U, 9, 0);
    x.clear(under);
    x.render(4);
    return x.pixel(0, 0);
  }

  private static void paints(int way, int under, int colour, int want) {
    due("WAY " + way + ", " + Integer.toHexString(colour) + " on " + Integer.toHexString(under), painted(under, colour, way), want);
  }

  static void painting_atFirst() {
    ListPainter x = Check.ready(1, 1, 8, 0, 0, U, U, 9, 0);
    x.clear(0x11223344);
    x.render(2);
    due("black, all COVER, WAY 0", x.pixel(0, 0), Check.BLACK);
  }

  static void painting_qIsCutOff() {
    // With WAY 3 on 0 a byte becomes q (s A): 127 / 255 and 254 / 255 and 382 / 255 and 383 / 255.
    paints(3, 0, 0x7F010101, 0x7F000000);
    paints(3, 0, 0x80010101, 0x80010101);
    paints(3, 0, 0xBF020201, 0xBF010101);
    paints(3, 0, 0xFF010203, 0xFF010203);
    paints(3, 0, 0x55040401, 0x55010100);
    paints(3, 0, 0x7F030303, 0x7F010101);
    paints(3, 0, 0x80030303, 0x80020202);
  }

  static void painting_way0() {
    // Red: (100 * 128 + 200 * 127 + 127) / 255 = 150; COVER: (255 * 128 + 64 * 127 + 127) / 255 = 160.
    paints(0, 0x40C81E05, 0x80641EFF, 0xA0961E82);
  }

  static void painting_way0WithoutCoverAndWithAll() {
    paints(0, 0x40C81E05, 0x00FFFFFF, 0x40C81E05);
    paints(0, 0xFFFFFFFF, 0x00000000, 0xFFFFFFFF);
    paints(0, 0x40C81E05, 0xFF010203, 0xFF010203);
    paints(0, 0x00000000, 0xFFFFFFFF, 0xFFFFFFFF);
    paints(0, 0xFFFFFFFF, 0xFF000000, 0xFF000000);
  }

  static void painting_way1() {
    int[] colours = {0, -1, 0x00FFFFFF, 0x80641EFF, LEAST, MOST};
    for (int colour : colours) {
      paints(1, 0x40C81E05, colour, colour);
    }
  }

  static void painting_way2() {
    // Of 100 and 200 comes 78, of 30 and 30 comes 4, of 255 and 5 comes 5; COVER as with WAY 0.
    paints(2, 0x40C81E05, 0x80641EFF, 0xA08B1105);
    paints(2, 0x40C81E05, 0xFFFFFFFF, 0xFFC81E05);
    paints(2, 0x40C81E05, 0xFF000000, 0xFF000000);
    paints(2, 0x40C81E05, 0x00000000, 0x40C81E05);
    // q (s t) is cut off by itself: 1 * 127 is 0, 1 * 128 is 1.
    paints(2, 0x007F8080, 0xFF010100, 0xFF000100);
  }

  static void painting_way3() {
    // 50, 15 and 128 are added.
    paints(3, 0x40C81E05, 0x80641EFF, 0xC0FA2D85);
  }

  static void painting_way3Has255AtMost() {
    paints(3, 0x00FFFFFF, 0xFF010101, 0xFFFFFFFF);
    paints(3, 0x01FEFEFE, 0xFE010101, 0xFFFFFFFF);
    paints(3, 0x02FEFDFC, 0xFE020202, 0xFFFFFFFE);
    paints(3, 0xFFFFFFFF, 0xFFFFFFFF, 0xFFFFFFFF);
    paints(3, 0xC8C8C8C8, 0x36000000, 0xFEC8C8C8);
    paints(3, 0xC8C8C8C8, 0x37000000, 0xFFC8C8C8);
    paints(3, 0xC8C8C8C8, 0x38000000, 0xFFC8C8C8);
  }

  static void painting_way4() {
    // 100, 0 and 250 are the differences; COVER as with WAY 0.
    paints(4, 0x40C81E05, 0x80641EFF, 0xA0960F80);
    paints(4, 0x00FF00FF, 0xFFFF00FF, 0xFF000000);
    paints(4, 0x00FF00FF, 0xFF00FF00, 0xFFFFFFFF);
    paints(4, 0x40C81E05, 0x00FFFFFF, 0x40C81E05);
  }

  private static int q(int n) {
    return (n + 127) / 255;
  }

  /** Red, green and blue alike, each as the document tells them. */
  static void painting_bytesAtTheirBounds() {
    int[] bytes = {0, 1, 2, 64, 126, 127, 128, 129, 191, 253, 254, 255};
    for (int a : bytes) {
      for (int s : bytes) {
        for (int t : bytes) {
          int under = (t << 24) | (s << 16) | (t << 8) | (255 - t), colour = (a << 24) | (t << 16) | (s << 8) | s;
          int cover = q(255 * a + t * (255 - a)) << 24;
          int[] want = new int[5];
          for (int shift = 0; shift <= 16; shift += 8) {
            int c = colour >> shift & 255, p = under >> shift & 255;
            want[0] |= q(c * a + p * (255 - a)) << shift;
            want[2] |= q(q(c * p) * a + p * (255 - a)) << shift;
            want[3] |= Math.min(255, p + q(c * a)) << shift;
            want[4] |= q((c > p ? c - p : p - c) * a + p * (255 - a)) << shift;
          }
          paints(0, under, colour, want[0] | cover);
          paints(2, under, colour, want[2] | cover);
          paints(3, under, colour, want[3] | Math.min(255, t + a) << 24);
          paints(4, under, colour, want[4] | cover);
        }
      }
    }
  }

  public static void main(String[] args) {
    Check.runAll(TermsTest.class);
  }
}
