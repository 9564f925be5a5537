/** SHORTER, row by row: a test for each clause, of what just goes and of what just stays. */
public final class ShorterTest {
  private static final int U = Check.U, HALF = Check.HALF;
  private static final int LEAST = Check.LEAST;
  private static final int[] BOX = {8, 0, 0, U, U, 9, 0};
  private static final int[] NEXT = {8, U, U, U, U, 9, 0};

  private static void becomes(String what, int[] words, int... want) {
    Check.becomes(what, words, want);
  }

  private static void stays(String what, int... words) {
    Check.stays(what, words);
  }

  private static int[] of(int... words) {
    return words;
  }

  private static int[] join(int[]... parts) {
    return Check.join(parts);
  }

  /** A path of which each TABLE before it is wanted, with PLAIN in its midst so that it paints by any. */
  private static final int[] BY_ANY_TABLE = {4, 0, 0, 14, 5, 0, 5 * U, 5, U, U, 9, 0};

  // ---- A

  static void rowA_withoutAFillAllGoes() {
    becomes("with a SAVE", of(1, 10, 5, 8, 0, 0, U, U, 2, 14));
    becomes("PATH alone", of(3));
    becomes("a full list", Check.times(750, 1, 2));
    becomes("eight SAVES", join(Check.times(8, 1), of(8, 0, 0, U, U), Check.times(8, 2)));
  }

  static void rowA_anEmptyListStaysEmpty() {
    becomes("nothing", of());
  }

  static void rowA_behindTheLastFillAllGoes() {
    becomes("each kind", join(BOX, of(10, 5, 11, 1, 12, 2 * U, 0, 0, U, 0, 0, 13, 1, 1, 1, 1, 14, 3, 4, 0, 0, 5, 1, 1,
        6, 1, 1, 2, 2, 7, 8, 0, 0, U, U)), BOX);
    becomes("SAVE and its BRING BACK", join(BOX, of(1, 10, 5, 2)), BOX);
    stays("the FILL itself", BOX);
  }

  static void rowA_bringBackOfASaveBeforeItStays() {
    becomes("one", join(of(10, 5, 1, 10, 6), BOX, of(10, 7, 2, 1, 2, 11, 1)), join(of(10, 5, 1, 10, 6), BOX, of(2)));
    becomes("two, and those between go", join(of(1, 1), BOX, of(2, 1, 1, 2, 2, 2, 1, 2)), join(of(1, 1), BOX, of(2, 2)));
    stays("eight", join(Check.times(8, 1), BOX, Check.times(8, 2)));
  }

  static void rowA_wordsThatOnlyLookLikeCommands() {
    becomes("9 is no FILL there", join(BOX, of(10, 9, 3, 10, 9)), BOX);
    stays("12 is no TABLE there", join(of(10, 12), BOX));
    stays("2 is no BRING BACK there", join(of(1, 10, 2, 11, 2), BOX, of(10, 1, 9, 1, 2)));
  }

  // ---- B

  static void rowB_theLeastHeightCounts() {
    stays("at the first row's middle", 8, 0, HALF, U, 1, 9, 0);
    becomes("one bit below it, down to the next one", of(8, 0, HALF + 1, U, U - 1, 9, 0));
    stays("at the last row's middle", 8, 0, 8 * U - HALF, U, U, 9, 0);
    becomes("one bit below that", of(8, 0, 8 * U - HALF + 1, U, U, 9, 0));
  }

  static void rowB_theGreatestHeightDoesNot() {
    becomes("at the first row's middle", of(8, 0, -U, U, U + HALF, 9, 0));
    stays("one bit below it", 8, 0, -U, U, U + HALF + 1, 9, 0);
    becomes("at the second row's middle, from below the first one", of(8, 0, HALF + 1, U, U - 1, 9, 0));
    stays("one bit below that", 8, 0, HALF + 1, U, U, 9, 0);
    becomes("upwards to it", of(8, 0, HALF, U, -U, 9, 0));
  }

  static void rowB_aPathWithoutHeight() {
    becomes("a level line at a middle", of(4, 0, HALF, 5, 3 * U, HALF, 9, 0));
    becomes("one point at a middle", of(4, HALF, HALF, 9, 0));
  }

  static void rowB_pixelsToTheLeftOfAllPoints() {
    stays("the last column's middle is at the least x", 8, 8 * U - HALF, 0, U, U, 9, 0);
    becomes("it is one bit to the left", of(8, 8 * U - HALF + 1, 0, U, U, 9, 0));
    stays("one point reaches it", 4, 8 * U - HALF, 9 * U, 5, 9 * U, 0, 5, 9 * U, 9 * U, 9, 0);
    stays("a path to the left of all pixels", 8, -9 * U, 0, U, U, 9, 0);
  }

  static void rowB_itGoesByPixelsInTheClip() {
    becomes("above the path", of(13, 0, 0, 8, 2, 8, 0, 2 * U, U, U, 9, 0));
    stays("one row more", 13, 0, 0, 8, 3, 8, 0, 2 * U, U, U, 9, 0);
    becomes("below the path", of(13, 0, 3, 8, 5, 8, 0, 2 * U, U, U, 9, 0));
    stays("one row more above", 13, 0, 2, 8, 6, 8, 0, 2 * U, U, U, 9, 0);
    becomes("left of the path", of(13, 0, 0, 2, 8, 8, 2 * U, 0, U, U, 9, 0));
    stays("one column more", 13, 0, 0, 3, 8, 8, 2 * U, 0, U, U, 9, 0);
    stays("right of the path", 13, 5, 0, 3, 8, 8, 2 * U, 0, U, U, 9, 0);
  }

  static void rowB_anEmptyClip() {
    becomes("without width", of(13, 3, 3, 0, 5, 8, 0, 0, 8 * U, 8 * U, 9, 0));
    becomes("outside", of(13, 8, 0, 5, 5, 8, 0, 0, 8 * U, 8 * U, 9, 0));
    becomes("in a SAVE only", join(of(1, 13, 3, 3, 0, 5, 8, 0, 0, 8 * U, 8 * U, 9, 0, 2, 9, 0)),
        1, 13, 3, 3, 0, 5, 8, 0, 0, 8 * U, 8 * U, 2, 9, 0);
  }

  static void rowB_anEmptyPath() {
    becomes("at first", of(9, 0));
    becomes("behind PATH", join(BOX, of(3, 9, 1)), BOX);
  }

  static void rowB_whicheverPointIsTheLeastOrTheGreatest() {
    int[][] corners = {{0, -U}, {U, 0}, {0, U}};
    for (int first = 0; first < 3; first++) {
      int[] path = {};
      for (int i = 0; i < 3; i++) {
        int[] corner = corners[(first + i) % 3];
        path = join(path, of(i == 0 ? 4 : 5, corner[0], corner[1]));
      }
      stays("downwards, from " + first, join(path, of(9, 0)));
      stays("the other way, from " + first, join(path, of(5, corners[first][0], corners[first][1], 9, 0)));
    }
    stays("the first one is the greatest", 4, 0, 3 * U, 5, U, -U, 5, 0, -2 * U, 9, 0);
    stays("the first one is the least", 4, 0, -3 * U, 5, U, U, 5, 0, 2 * U, 9, 0);
    stays("the first one is farthest left", 4, 7 * U, 0, 5, 9 * U, 3 * U, 5, 9 * U, 0, 9, 0);
    stays("the last one is farthest left", 4, 9 * U, 0, 5, 9 * U, 3 * U, 5, 7 * U, 0, 9, 0);
  }

  static void rowB_onlyTheBoundsAreLookedAt() {
    stays("two points of two outlines", 4, 0, 0, 4, 0, 3 * U, 9, 0);
    stays("a line there and back", 4, 0, 0, 5, 0, 3 * U, 9, 0);
    stays("turns that cancel", 8, 0, 0, U, U, 8, U, 0, -U, U, 9, 0);
  }

  static void rowB_pointsAsTheTableSentThem() {
    becomes("below the sheet", of(12, U, 0, 0, U, 0, 9 * U, 8, 0, 0, U, U, 9, 0));
    stays("from far onto the sheet", 12, U, 0, 0, U, 0, -9 * U, 8, 0, 10 * U, U, U, 9, 0);
  }

  static void rowB_onlyThatFillGoes() {
    becomes("the second one paints", of(8, 0, -9 * U, U, U, 9, 0, 8, 0, 0, U, U, 9, 0),
        8, 0, -9 * U, U, U, 8, 0, 0, U, U, 9, 0);
  }

  // ---- C

  static void rowC_beforeTheNextPathWithoutAFill() {
    becomes("each of 4 to 8", join(of(4, 1, 1, 5, 2, 2, 6, 1, 1, 2, 2, 7, 8, 1, 1, 1, 1, 3), BOX), BOX);
    becomes("behind a FILL", join(BOX, of(7, 10, 5, 5, 1, 1, 3), NEXT), join(BOX, of(10, 5, 3), NEXT));
    becomes("in a SAVE", join(BOX, of(1, 5, 1, 1, 2, 3), NEXT), join(BOX, of(3), NEXT));
  }

  static void rowC_aFillBetweenKeepsThem() {
    stays("one FILL", join(BOX, of(3), NEXT));
    stays("before and behind FILL", join(BOX, of(5, 3 * U, 3 * U, 9, 1, 3), NEXT));
  }

  static void rowC_beforeTheEnd() {
    becomes("behind the last FILL, in a SAVE", join(of(1), BOX, of(5, 1, 1, 2)), join(of(1), BOX, of(2)));
    becomes("behind the last FILL that paints", join(BOX, of(3, 8, 0, -5 * U, U, U, 9, 0)), BOX);
  }

  // ---- D

  static void rowD_ofNothing() {
    becomes("at first", join(of(3, 3), BOX), BOX);
    becomes("behind another PATH", join(BOX, of(3, 3), NEXT), join(BOX, of(3), NEXT));
    becomes("behind another PATH and what is no path", join(BOX, of(3, 10, 5, 3), NEXT), join(BOX, of(3, 10, 5), NEXT));
  }

  static void rowD_ofSomethingItStays() {
    stays("a BOX", join(BOX, of(3), NEXT));
    stays("a BEGIN alone, with FILL", join(of(4, 0, 0, 4, 0, U, 9, 0, 3), NEXT));
  }

  static void rowD_behindWhatOtherRowsTook() {
    becomes("B, C and D", join(BOX, of(3, 8, 0, -5 * U, U, U, 9, 0, 3), NEXT), join(BOX, of(3), NEXT));
  }

  // ---- E

  static void rowE_anotherOneComes() {
    becomes("COLOUR", join(of(10, 5, 10, 6), BOX), join(of(10, 6), BOX));
    becomes("WAY", join(of(11, 1, 11, 2), BOX), join(of(11, 2), BOX));
    becomes("the same one", join(of(10, 5, 10, 5), BOX), join(of(10, 5), BOX));
    becomes("what was there before", join(of(10, 5, 10, Check.BLACK), BOX), BOX);
    becomes("not right behind", join(of(10, 5, 11, 1, 3, 14, 10, 6), BOX), join(of(11, 1, 10, 6), BOX));
    stays("a COLOUR is no other WAY", join(of(10, 5, 11, 2), BOX));
  }

  static void rowE_aFillBefore() {
    stays("COLOUR", join(of(10, 5), BOX, of(10, 6, 9, 0)));
    stays("WAY", join(of(11, 1), BOX, of(11, 2, 9, 0)));
  }

  static void rowE_aSaveBefore() {
    stays("COLOUR", join(of(10, 5, 1, 10, 6), BOX, of(2, 9, 0)));
    stays("WAY", join(of(11, 1, 1, 11, 2), BOX, of(2, 9, 0)));
  }

  static void rowE_aBringBackComes() {
    becomes("both", join(of(1, 10, 6), BOX, of(10, 7, 11, 3, 2, 9, 0)), join(of(1, 10, 6), BOX, of(2, 9, 0)));
  }

  static void rowE_theEndComes() {
    becomes("behind a BRING BACK", join(of(1), BOX, of(2, 10, 5, 11, 1)), join(of(1), BOX, of(2)));
  }

  static void rowE_whatThereIs() {
    becomes("at first", join(of(10, Check.BLACK, 11, 0), BOX), BOX);
    becomes("behind a FILL", join(of(10, 5, 11, 1), BOX, of(10, 5, 11, 1, 9, 0)), join(of(10, 5, 11, 1), BOX, of(9, 0)));
    becomes("what BRING BACK brought", join(of(10, 5, 1, 10, 6), BOX, of(2, 10, 5, 9, 0)),
        join(of(10, 5, 1, 10, 6), BOX, of(2, 9, 0)));
    becomes("in a SAVE", join(of(10, 5, 1, 10, 5, 13, 0, 0, 3, 3), BOX, of(2, 9, 0)),
        join(of(10, 5, 1, 13, 0, 0, 3, 3), BOX, of(2, 9, 0)));
    stays("the first one behind BRING BACK", join(of(1, 10, 6), BOX, of(2, 10, 6, 9, 0)));
    stays("one bit of COVER more", join(of(10, 0xFE000000), BOX));
  }

  // ---- F

  static void rowF_theSheetOrMore() {
    becomes("the SHEET", join(of(13, 0, 0, 8, 8), BOX), BOX);
    becomes("more", join(of(13, -999999, -1, 1000000, 9), BOX, of(13, -5, -1, 100, 9, 9, 0)),
        join(of(13, -999999, -1, 1000000, 9), BOX, of(9, 0)));
    stays("one column less", join(of(13, 0, 0, 7, 8), BOX));
    stays("one row less", join(of(13, 0, 0, 8, 7), BOX));
    stays("one column less on the left", of(13, 1, 0, 8, 8, 8, 0, 0, 2 * U, U, 9, 0));
    stays("one row less above", of(13, 0, 1, 8, 8, 8, 0, 0, U, 2 * U, 9, 0));
  }

  static void rowF_theSameAgain() {
    becomes("right behind", join(of(13, 0, 0, 2, 2, 13, 0, 0, 2, 2), BOX), join(of(13, 0, 0, 2, 2), BOX));
    becomes("a larger one", join(of(13, 0, 0, 2, 2, 13, 0, 0, 3, 2), BOX), join(of(13, 0, 0, 2, 2), BOX));
    stays("a smaller one", join(of(13, 0, 0, 3, 3, 13, 0, 0, 2, 2), BOX));
    becomes("behind BRING BACK", join(of(1, 13, 0, 0, 2, 2), BOX, of(2, 13, 0, 0, 8, 8, 9, 0)),
        join(of(1, 13, 0, 0, 2, 2), BOX, of(2, 9, 0)));
  }

  static void rowF_anEmptyOneIsLeftByAny() {
    becomes("in a SAVE", of(1, 13, 1, 1, 0, 0, 13, 0, 0, 8, 8, 13, 5, 5, 0, 1, 8, 0, 0, U, U, 2, 9, 0),
        1, 13, 1, 1, 0, 0, 8, 0, 0, U, U, 2, 9, 0);
  }

  // ---- G

  static void rowG_whatLeavesTheTableAsItIs() {
    becomes("PLAIN at first", join(of(14), BOX), BOX);
    becomes("the TABLE at first", join(of(12, U, 0, 0, U, 0, 0), BOX), BOX);
    becomes("PLAIN behind PLAIN", join(of(12, 2 * U, 0, 0, U, 0, 0, 4, 0, 0, 14, 14, 5, 0, 5 * U, 5, U, U, 9, 0)),
        join(of(12, 2 * U, 0, 0, U, 0, 0), BY_ANY_TABLE));
    becomes("behind one of 0 alone, any does", join(of(12, 0, 0, 0, 0, 0, 0, 12, 5, 6, 7, 8, 9, 9), BY_ANY_TABLE),
        join(of(12, 0, 0, 0, 0, 0, 0), BY_ANY_TABLE));
    becomes("by what is rounded", join(of(12, 1, 0, 0, 1, 0, 0, 12, U + 1, 0, 0, U + 32767, 32767, -32768), BY_ANY_TABLE),
        join(of(12, 1, 0, 0, 1, 0, 0), BY_ANY_TABLE));
  }

  static void rowG_whatDoesNotLeaveIt() {
    stays("PLAIN of another", join(of(12, 2 * U, 0, 0, U, 0, 0, 8, 0, 0, U, U, 14, 9, 0), NEXT));
    for (int i = 0; i < 6; i++) {
      int[] table = {12, U, 0, 0, U, 0, 0};
      table[1 + i]++;
      stays("one bit more in word " + i, join(table, BOX));
    }
    stays("one more by what is rounded", join(of(12, 1, 0, 0, 1, 0, 0, 12, U, 0, 0, U, 32768, 0), BY_ANY_TABLE));
  }

  private static void pair(String what, int[] first, int[] second, int... one) {
    int[] both = join(of(12), first, of(12), second, BY_ANY_TABLE);
    becomes(what, both, one.length == 0 ? both : join(of(12), one, BY_ANY_TABLE));
  }

  static void rowG_twoBecomeOne() {
    becomes("the first one behind the second",
        of(12, 0, U, -U, 0, 7 * U, 8 * U, 12, 2 * U, 0, 0, 3 * U, U, 2 * U, 8, -4 * U, 0, U, U, 9, 0),
        12, 0, 2 * U, -3 * U, 0, 5 * U, 9 * U, 8, -4 * U, 0, U, U, 9, 0);
    pair("twelve numbers", of(2 * U, 3 * U, 5 * U, 7 * U, 11 * U, 13 * U), of(17 * U, 19 * U, 23 * U, 29 * U, 31 * U, 37 * U),
        129 * U, 184 * U, 191 * U, 272 * U, 258 * U, 365 * U);
    pair("all 0", of(U, 0, 0, U, U, U), of(0, 0, 0, 0, 0, 0), 0, 0, 0, 0, U, U);
    becomes("one there, one back", join(of(12, U, 0, 0, U, U, 0, 12, U, 0, 0, U, -U, 0), BOX), BOX);
  }

  static void rowG_onlyRightBehind() {
    stays("a COLOUR between", join(of(12, U, 0, 0, U, U, 0, 10, 5, 12, U, 0, 0, U, 0, U), BOX));
    stays("a PLAIN between", join(of(12, U, 0, 0, U, U, 0, 4, 0, 0, 14, 12, U, 0, 0, U, 0, U, 5, 0, U, 5, U, U, 9, 0)));
    stays("a SAVE between", join(of(12, U, 0, 0, U, U, 0, 1, 12, U, 0, 0, U, 0, U), BOX, of(2, 8, 0, 0, U, U, 9, 0)));
  }

  static void rowG_otherCommandsAreNoTables() {
    stays("FILL of 0, at the end", 8, 0, 0, U, U, 12, 2 * U, 0, 0, U, 0, 0, 9, 0);
    stays("COLOUR of 0", 8, 0, 0, U, U, 12, 2 * U, 0, 0, U, 0, 0, 10, 0, 9, 0);
    stays("a COLOUR of a TABLE's number", 8, 0, 0, U, U, 12, 2 * U, 0, 0, U, 0, 0, 10, 12, 9, 0);
  }

  static void rowG_allTwelveNumbersAreWhole() {
    for (int i = 0; i < 6; i++) {
      int[] first = {2 * U, U, U, 2 * U, U, U}, second = {2 * U, U, U, 3 * U, U, U};
      first[i] += 1;
      pair("one bit behind the first one's point, word " + i, first, second);
      first[i] += HALF - 1;
      pair("a half behind the first one's point, word " + i, first, second);
      first[i] -= HALF;
      second[i] -= 1;
      pair("one bit behind the second one's point, word " + i, first, second);
      second[i] += 1 - HALF;
      pair("a half behind the second one's point, word " + i, first, second);
    }
  }

  private static final int H = 16384 * U, G = 32767 * U;

  static void rowG_aHas32Bits() {
    pair("more", of(H, 0, H, 0, 0, 0), of(U, U, 0, 0, 0, 0));
    pair("the least", of(-H, 0, -H, 0, 0, 0), of(U, U, 0, 0, 0, 0), LEAST, 0, 0, 0, 0, 0);
    pair("less than the least", of(-H, 0, -H - U, 0, 0, 0), of(U, U, 0, 0, 0, 0));
    pair("the greatest whole one", of(H, 0, H - U, 0, 0, 0), of(U, U, 0, 0, 0, 0), G, 0, 0, 0, 0, 0);
    pair("0 of more", of(H, 0, H, 0, 0, 0), of(2 * U, -2 * U, 0, 0, 0, 0), 0, 0, 0, 0, 0, 0);
    pair("64 bits", of(LEAST, 0, LEAST, 0, 0, 0), of(LEAST, LEAST, 0, 0, 0, 0));
    pair("32 bits that wrap to 0", of(256 * U, 0, 0, 0, 0, 0), of(256 * U, 0, 0, 0, 0, 0));
  }

  static void rowG_bHas32Bits() {
    pair("more", of(0, H, 0, H, 0, 0), of(U, U, 0, 0, 0, 0));
    pair("the least", of(0, -H, 0, -H, 0, 0), of(U, U, 0, 0, 0, 0), 0, LEAST, 0, 0, 0, 0);
    pair("the greatest whole one", of(0, H, 0, H - U, 0, 0), of(U, U, 0, 0, 0, 0), 0, G, 0, 0, 0, 0);
    pair("0 of more", of(0, H, 0, H, 0, 0), of(2 * U, -2 * U, 0, 0, 0, 0), 0, 0, 0, 0, 0, 0);
    pair("great ones", of(0, 300 * U, 0, -U, 0, 0), of(200 * U, 20000 * U, 0, 0, 0, 0));
  }

  static void rowG_cHas32Bits() {
    pair("more", of(H, 0, H, 0, 0, 0), of(0, 0, U, U, 0, 0));
    pair("the least", of(-H, 0, -H, 0, 0, 0), of(0, 0, U, U, 0, 0), 0, 0, LEAST, 0, 0, 0);
    pair("0 of more", of(H, 0, H, 0, 0, 0), of(0, 0, 2 * U, -2 * U, 0, 0), 0, 0, 0, 0, 0, 0);
  }

  static void rowG_dHas32Bits() {
    pair("more", of(0, H, 0, H, 0, 0), of(0, 0, U, U, 0, 0));
    pair("the least", of(0, -H, 0, -H, 0, 0), of(0, 0, U, U, 0, 0), 0, 0, 0, LEAST, 0, 0);
    pair("0 of more", of(0, H, 0, H, 0, 0), of(0, 0, -2 * U, 2 * U, 0, 0), 0, 0, 0, 0, 0, 0);
  }

  static void rowG_eHas32Bits() {
    pair("more", of(H, 0, H, 0, 0, 0), of(0, 0, 0, 0, U, U));
    pair("0 of more", of(H, 0, H, 0, 0, 0), of(0, 0, 0, 0, 2 * U, -2 * U), 0, 0, 0, 0, 0, 0);
    pair("more by what is added", of(U, 0, 0, 0, H, 0), of(0, 0, 0, 0, H, 0));
    pair("less by what is added", of(U, 0, 0, 0, -H, 0), of(0, 0, 0, 0, -H - U, 0));
    pair("the greatest whole one", of(U, 0, 0, 0, H, 0), of(0, 0, 0, 0, H - U, 0), 0, 0, 0, 0, G, 0);
    pair("brought back by what is added", of(2 * U, 0, 0, 0, -H, 0), of(0, 0, 0, 0, H, 0), 0, 0, 0, 0, H, 0);
  }

  static void rowG_fHas32Bits() {
    pair("more", of(0, H, 0, H, 0, 0), of(0, 0, 0, 0, U, U));
    pair("0 of more", of(0, H, 0, H, 0, 0), of(0, 0, 0, 0, 2 * U, -2 * U), 0, 0, 0, 0, 0, 0);
    pair("more by what is added", of(0, 0, 0, U, 0, H), of(0, 0, 0, 0, 0, H));
    pair("the least", of(0, 0, 0, U, 0, -H), of(0, 0, 0, 0, 0, -H), 0, 0, 0, 0, 0, LEAST);
    pair("brought back by what is added", of(0, 0, 0, 2 * U, 0, -H), of(0, 0, 0, 0, 0, H), 0, 0, 0, 0, 0, H);
  }

  /** Four shifts, of which the first three together have 32 bits, and all four, but not what comes of the last two twos. */
  static void rowG_whatComesOfTwoIsNotLookedAtAgainInIt() {
    int t = 30000 * U, third = 10000 * U;
    becomes("four", join(of(12, U, 0, 0, U, 2 * third, 0, 12, U, 0, 0, U, third, 0, 12, U, 0, 0, U, -third, 0,
        12, U, 0, 0, U, t, 0), BY_ANY_TABLE),
        join(of(12, U, 0, 0, U, t, 0, 12, U, 0, 0, U, 2 * third, 0), BY_ANY_TABLE));
  }

  static void rowG_allAgainUntilNoneChanges() {
    int[] shifts = {};
    for (int i = 0; i < 9; i++) {
      shifts = join(shifts, of(12, U, 0, 0, U, U, i % 2 * U));
    }
    becomes("nine", join(shifts, of(8, -8 * U, 0, U, U, 9, 0)), 12, U, 0, 0, U, 9 * U, 4 * U, 8, -8 * U, 0, U, U, 9, 0);
  }

  // ---- H

  static void rowH_aBringBackComes() {
    becomes("TABLE, CLIP and PLAIN", join(of(1, 10, 6), BOX, of(12, 5, 0, 0, 5, 0, 0, 13, 1, 1, 1, 1, 14, 2, 9, 0)),
        join(of(1, 10, 6), BOX, of(2, 9, 0)));
    becomes("a PATH between", join(of(1, 10, 6), BOX, of(13, 1, 1, 1, 1, 3, 2), NEXT), join(of(1, 10, 6), BOX, of(3, 2), NEXT));
    becomes("a PLAIN that is wanted by none", join(of(12, U, 0, 0, U, U, 0, 1, 10, 6), BOX, of(14, 2), NEXT),
        join(of(12, U, 0, 0, U, U, 0, 1, 10, 6), BOX, of(2), NEXT));
  }

  static void rowH_theEndComes() {
    becomes("behind a BRING BACK", join(of(1, 10, 6), BOX, of(2, 12, 5, 0, 0, 5, 0, 0, 13, 1, 1, 1, 1)), join(of(1, 10, 6), BOX, of(2)));
  }

  static void rowH_aCommandOf4To9Before() {
    int[][] commands = {{4, 0, 0}, {5, 0, U}, {6, 0, U, U, U}, {7}, {8, 0, 0, U, U}, {9, 0}};
    for (int[] command : commands) {
      stays("CLIP, then " + command[0], join(of(4, 0, 0, 5, 4 * U, 4 * U, 1, 13, 0, 0, 3, 3), command, of(2, 9, 0)));
      stays("TABLE, then " + command[0], join(of(4, 0, 0, 5, 4 * U, 4 * U, 1, 12, 2 * U, 0, 0, U, 0, 0), command, of(2, 9, 0)));
    }
  }

  static void rowH_aSaveBefore() {
    stays("CLIP", join(of(1, 13, 0, 0, 3, 3, 1, 10, 6), BOX, of(2, 2, 9, 0)));
    stays("TABLE", join(of(1, 12, 2 * U, 0, 0, U, 0, 0, 1, 10, 6), BOX, of(2, 2, 9, 0)));
    stays("CLIP, and the first BRING BACK is that SAVE's", join(BOX, of(13, 0, 0, 3, 3, 1, 3, 2), NEXT));
    stays("TABLE, and the first BRING BACK is that SAVE's", join(BOX, of(12, 2 * U, 0, 0, U, 0, 0, 1, 3, 2), NEXT));
    stays("PLAIN, and the first BRING BACK is that SAVE's", join(of(12, 2 * U, 0, 0, U, 0, 0), BOX, of(14, 1, 3, 2), NEXT));
  }

  // ---- I

  static void rowI_saveAndBringBackRightBehind() {
    becomes("one", join(of(1, 2), BOX), BOX);
    becomes("two", join(of(1, 2, 1, 2), BOX), BOX);
    becomes("in each other", join(of(1, 1, 1, 2, 2, 1, 2, 2), BOX), BOX);
    becomes("eight in each other", join(Check.times(8, 1), Check.times(8, 2), BOX), BOX);
  }

  static void rowI_notRightBehind() {
    stays("a path between", 1, 8, 0, 0, U, U, 2, 9, 0);
    stays("BRING BACK and SAVE", join(of(1, 10, 5), BOX, of(2, 1, 10, 6, 9, 0, 2, 9, 0)));
  }

  static void rowI_behindWhatOtherRowsTook() {
    becomes("E, H and I", join(of(10, 5, 1, 10, 6, 13, 1, 1, 1, 1, 2, 10, 7), BOX), join(of(10, 7), BOX));
  }

  // ---- all of them

  static void shorter_itPaintsTheSameWhateverWasThere() {
    int[] words = join(of(1, 12, U, 0, 0, U, U, 0, 12, U, 0, 0, U, 0, U, 13, 0, 0, 9, 9, 10, 0x80123456, 11, 4), BOX,
        of(2, 3, 10, 5, 10, 0x40FF00FF, 11, 2, 4, 0, 0, 6, 8 * U, 0, 8 * U, 8 * U, 9, 1, 3, 8, 0, -U, U, U, 9, 0));
    ListPainter x = Check.ready(8, 8, words);
    due("optimise()", x.optimise() < words.length ? 1 : 0, 1);
    int[] under = {0, -1, 0x80FF7F01, LEAST, Check.MOST};
    for (int p : under) {
      x.clear(p);
      x.render(1500);
      int sum = x.sum();
      x.clear(p);
      x.renderShorter(1500);
      due("sum() on " + p, x.sum(), sum);
    }
  }

  static void shorter_ofAShorterOneNothingGoes() {
    int[] words = join(of(1, 1, 12, U, 0, 0, U, U, 0, 12, U, 0, 0, U, 0, U, 10, 9, 10, 6), BOX, of(2, 13, 0, 0, 8, 8, 3, 2), NEXT, of(3));
    stays("again", Check.shorterOf(8, 8, words));
  }

  private static void due(String what, long got, long want) {
    Check.due(what, got, want);
  }

  public static void main(String[] args) {
    Check.runAll(ShorterTest.class);
  }
}
