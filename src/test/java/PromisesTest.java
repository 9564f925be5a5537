/** Promises 1 to 14, a test for each sentence: ordinary inputs, each boundary that it names, and refused calls. */
public final class PromisesTest {
  private static final int[] BOX_AND_FILL = {8, 0, 0, 2 * Check.U, Check.U, 9, 0};

  private static void due(String call, long got, long want) {
    Check.due(call, got, want);
  }

  /** PATHS, so that any number of words is a right list. */
  private static ListPainter filled(int words) {
    return Check.with(2, 2, Check.times(words, 3));
  }

  /** All that wants a list that was looked over refuses. */
  private static void notReady(String when, ListPainter x) {
    due(when + ": one()", x.one(), -2);
    due(when + ": render(1)", x.render(1), -2);
    due(when + ": optimise()", x.optimise(), -2);
    due(when + ": state(1)", x.state(1), Check.NOT_TOLD);
  }

  private static void noShorter(String when, ListPainter x) {
    due(when + ": shorter(0)", x.shorter(0), Check.NOT_TOLD);
    due(when + ": renderShorter(1)", x.renderShorter(1), -2);
  }

  // ---- 1: a new object

  static void promise1_theConstants() {
    due("BAD", ListPainter.BAD, -1);
    due("NONE", ListPainter.NONE, -2);
  }

  private static void sides(int w, int h, int wantW, int wantH) {
    ListPainter x = new ListPainter(w, h);
    String what = "a sheet of " + w + " by " + h + ": ";
    due(what + "the last pixel", x.pixel(wantW - 1, wantH - 1), 0);
    due(what + "right of it", x.pixel(wantW, wantH - 1), 1);
    due(what + "below it", x.pixel(wantW - 1, wantH), 1);
    x.verify();
    due(what + "state(8)", x.state(8), wantW);
    due(what + "state(9)", x.state(9), wantH);
  }

  static void promise1_aWidthThatIsTooSmallIs1() {
    sides(0, 3, 1, 3);
    sides(-1, 3, 1, 3);
    sides(Check.LEAST, 3, 1, 3);
  }

  static void promise1_aHeightThatIsTooSmallIs1() {
    sides(3, 0, 3, 1);
    sides(3, -1, 3, 1);
    sides(3, Check.LEAST, 3, 1);
  }

  static void promise1_aWidthThatIsTooLargeIs32() {
    sides(33, 3, 32, 3);
    sides(Check.MOST, 3, 32, 3);
  }

  static void promise1_aHeightThatIsTooLargeIs32() {
    sides(3, 33, 3, 32);
    sides(3, Check.MOST, 3, 32);
  }

  static void promise1_sidesOf1To32AreKept() {
    sides(1, 1, 1, 1);
    sides(1, 32, 1, 32);
    sides(32, 1, 32, 1);
    sides(2, 31, 2, 31);
    sides(32, 32, 32, 32);
    sides(5, 3, 5, 3);
  }

  static void promise1_allPixelsAre0() {
    ListPainter x = new ListPainter(21, 19);
    for (int i = 0; i < 21 * 19; i++) {
      due("pixel " + i, x.pixel(i % 21, i / 21), 0);
    }
  }

  static void promise1_theListIsEmpty() {
    ListPainter x = new ListPainter(2, 2);
    due("state(0)", x.state(0), 0);
    due("state(2)", x.state(2), ListPainter.NONE);
    due("reset()", x.reset(), 0);
  }

  static void promise1_theListWasNotLookedOver() {
    notReady("a new object", new ListPainter(2, 2));
    noShorter("a new object", new ListPainter(2, 2));
  }

  static void promise1_objectsShareNothing() {
    ListPainter x = Check.done(2, 2, BOX_AND_FILL);
    ListPainter y = new ListPainter(2, 2);
    due("state(0)", y.state(0), 0);
    due("pixel(0, 0)", y.pixel(0, 0), 0);
    y.clear(7);
    due("pixel(0, 0) of the other one", x.pixel(0, 0), Check.BLACK);
  }

  // ---- 2: feed

  static void promise2_howManyWordsThereAreThen() {
    ListPainter x = new ListPainter(2, 2);
    due("feed(3)", x.feed(3), 1);
    due("feed(3)", x.feed(3), 2);
    due("state(0)", x.state(0), 2);
  }

  static void promise2_anyWordIsTaken() {
    ListPainter x = new ListPainter(2, 2);
    int[] words = {Check.LEAST, -1, 0, 15, Check.MOST};
    for (int i = 0; i < words.length; i++) {
      due("feed(" + words[i] + ")", x.feed(words[i]), i + 1);
    }
  }

  static void promise2_theWord1500IsTaken() {
    ListPainter x = filled(1499);
    due("feed(3)", x.feed(3), 1500);
    due("state(0)", x.state(0), 1500);
    due("verify()", x.verify(), 0);
    due("render(1499)", x.render(1499), 1);
    due("render(1500)", x.render(1500), 0);
    due("state(1)", x.state(1), 1500);
  }

  static void promise2_theWord1501IsBad() {
    ListPainter x = filled(Check.FULL);
    due("feed(3)", x.feed(3), ListPainter.BAD);
    due("feed(0)", x.feed(0), ListPainter.BAD);
    due("state(0)", x.state(0), 1500);
    due("verify()", x.verify(), 0);
  }

  static void promise2_aWordMoreMustBeLookedOverAnew() {
    ListPainter x = Check.ready(2, 2, BOX_AND_FILL);
    x.optimise();
    x.feed(3);
    notReady("behind feed()", x);
    noShorter("behind feed()", x);
    due("verify()", x.verify(), 0);
    due("one()", x.one(), 0);
  }

  static void promise2_aWordThatIsRefusedChangesNothing() {
    ListPainter x = filled(1495);
    Check.feedAll(x, 9, 0, 3, 10, 5);
    x.verify();
    x.optimise();
    x.render(1496);
    int[] before = Check.look(x);
    due("feed(3)", x.feed(3), ListPainter.BAD);
    Check.unchanged("feed(3)", before, x);
    due("one()", x.one(), 0);
    due("renderShorter(1)", x.renderShorter(1), 0);
  }

  // ---- 3: five

  static void promise3_howManyWordsThereAreThen() {
    ListPainter x = new ListPainter(2, 2);
    due("five()", x.five(3, 3, 3, 3, 3), 5);
    x.feed(3);
    due("five()", x.five(3, 3, 3, 3, 3), 11);
  }

  static void promise3_theWordsComeInTheirOrder() {
    ListPainter x = new ListPainter(9, 9);
    x.five(13, 1, 2, 3, 4);
    x.verify();
    x.one();
    int[] clip = {1, 2, 4, 6};
    for (int i = 0; i < 4; i++) {
      due("state(" + (6 + i) + ")", x.state(6 + i), clip[i]);
    }
  }

  static void promise3_justRoomForFive() {
    ListPainter x = filled(1495);
    due("five()", x.five(3, 3, 3, 10, 5), 1500);
    due("verify()", x.verify(), 0);
    due("render(1499)", x.render(1499), 0);
    due("state(4)", x.state(4), 5);
  }

  static void promise3_lessRoomIsBadAndChangesNothing() {
    for (int words = 1496; words <= 1500; words++) {
      ListPainter x = filled(words);
      x.verify();
      x.optimise();
      x.render(7);
      int[] before = Check.look(x);
      due("five() behind " + words, x.five(1, 1, 1, 1, 1), ListPainter.BAD);
      Check.unchanged("five() behind " + words, before, x);
      due("one() behind that", x.one(), 0);
      due("renderShorter(1) behind that", x.renderShorter(1), 0);
      due("verify() behind that", x.verify(), 0);
    }
  }

  static void promise3_theRoomThatIsLeftCanBeFilledByFeed() {
    ListPainter x = filled(1496);
    due("five()", x.five(1, 1, 1, 1, 1), ListPainter.BAD);
    for (int words = 1497; words <= 1500; words++) {
      due("feed(3)", x.feed(3), words);
    }
    due("feed(3)", x.feed(3), ListPainter.BAD);
  }

  static void promise3_fiveWordsMoreMustBeLookedOverAnew() {
    ListPainter x = Check.ready(2, 2, BOX_AND_FILL);
    x.optimise();
    x.five(3, 3, 3, 3, 3);
    notReady("behind five()", x);
    noShorter("behind five()", x);
  }

  // ---- 4: reset

  static void promise4_howManyWordsItHad() {
    ListPainter x = Check.with(2, 2, BOX_AND_FILL);
    due("reset()", x.reset(), 7);
    due("reset() again", x.reset(), 0);
    due("state(0)", x.state(0), 0);
  }

  static void promise4_anEmptyList() {
    due("reset()", new ListPainter(2, 2).reset(), 0);
  }

  static void promise4_aFullListHasRoomAgain() {
    ListPainter x = filled(Check.FULL);
    due("reset()", x.reset(), 1500);
    due("feed(3)", x.feed(3), 1);
    due("five()", x.five(3, 3, 3, 3, 3), 6);
    due("verify()", x.verify(), 0);
    due("render(6)", x.render(6), 0);
  }

  static void promise4_itMustBeLookedOverAnew() {
    ListPainter x = Check.ready(2, 2, BOX_AND_FILL);
    x.optimise();
    x.reset();
    notReady("behind reset()", x);
    noShorter("behind reset()", x);
  }

  static void promise4_pixelsStay() {
    ListPainter x = Check.done(2, 2, BOX_AND_FILL);
    int sum = x.sum();
    x.reset();
    due("sum()", x.sum(), sum);
  }

  static void promise4_wordsFromBeforeAreGone() {
    ListPainter x = Check.with(2, 2, 4, 0, 0);
    x.reset();
    x.feed(4);
    due("verify()", x.verify(), 2);
  }

  // ---- 5: verify

  static void promise5_anEmptyListHasNoFault() {
    ListPainter x = new ListPainter(2, 2);
    due("verify()", x.verify(), 0);
    due("state(1)", x.state(1), 0);
    due("state(2)", x.state(2), ListPainter.NONE);
  }

  static void promise5_aFullListHasNoFault() {
    ListPainter x = filled(Check.FULL);
    due("verify()", x.verify(), 0);
    due("state(2)", x.state(2), ListPainter.NONE);
  }

  static void promise5_theListIsAtItsBeginning() {
    ListPainter x = Check.ready(6, 5, 1, 12, 5, 1, 2, 3, 4, 5, 13, 1, 2, 3, 9, 10, 77, 11, 3, 8, 0, 0, 1, 1, 2);
    int[] first = Check.look(x);
    x.render(6);
    due("verify()", x.verify(), 0);
    Check.unchanged("render() and verify()", first, x);
    due("render(6)", x.render(6), 1);
    due("state(16) is counted from 0 on", x.state(16), 4);
  }

  static void promise5_theCountsBeginAnew() {
    ListPainter x = Check.done(2, 2, BOX_AND_FILL);
    due("state(17)", x.state(17), 1);
    due("state(18)", x.state(18), 2);
    x.verify();
    due("state(17) behind verify()", x.state(17), 0);
    due("state(18) behind verify()", x.state(18), 0);
  }

  static void promise5_pixelsStay() {
    ListPainter x = Check.done(2, 2, BOX_AND_FILL);
    int sum = x.sum();
    x.verify();
    due("sum()", x.sum(), sum);
  }

  static void promise5_theFirstFaultIsAnswered() {
    Check.fault("of three", 1, 1, 1, 99, 2, 2, 5, 0, 0);
    Check.fault("of two in the other order", 4, 0, 2, 99);
  }

  static void promise5_aFaultRefusesAllThatGoesByTheList() {
    ListPainter x = Check.done(2, 2, BOX_AND_FILL);
    x.feed(0);
    due("verify()", x.verify(), 1);
    notReady("with a FAULT", x);
    noShorter("with a FAULT", x);
    due("state(0)", x.state(0), 8);
    due("pixel(0, 0)", x.pixel(0, 0), Check.BLACK);
  }

  static void promise5_aFaultCanBeMended() {
    ListPainter x = Check.with(2, 2, 1);
    due("verify()", x.verify(), 8);
    x.feed(2);
    due("verify() of the mended list", x.verify(), 0);
    due("render(2)", x.render(2), 0);
  }

  static void promise5_eachLookBeginsAnew() {
    ListPainter x = Check.with(2, 2, Check.join(Check.of(4, 0, 0), Check.times(300, 7), Check.times(8, 1), Check.times(8, 2)));
    due("verify()", x.verify(), 0);
    due("verify() again", x.verify(), 0);
    x.reset();
    x.feed(7);
    due("verify() of a CLOSE", x.verify(), 6);
    x.reset();
    x.feed(2);
    due("verify() of a BRING BACK", x.verify(), 4);
  }

  // ---- 6: one

  static void promise6_oneCommandIsDone() {
    ListPainter x = Check.ready(4, 4, BOX_AND_FILL);
    due("one()", x.one(), 0);
    due("state(1)", x.state(1), 5);
    due("state(16)", x.state(16), 4);
    due("pixel(0, 0) before FILL", x.pixel(0, 0), 0);
    due("one()", x.one(), 0);
    due("state(1)", x.state(1), 7);
    due("pixel(1, 0)", x.pixel(1, 0), Check.BLACK);
    due("pixel(2, 0)", x.pixel(2, 0), 0);
  }

  static void promise6_theEndIsToldBehindTheLastCommand() {
    ListPainter x = Check.ready(4, 4, 10, 5);
    due("one(), the last COMMAND", x.one(), 0);
    due("one(), the end", x.one(), 1);
    due("one(), the end again", x.one(), 1);
  }

  static void promise6_theEndChangesNothing() {
    ListPainter x = Check.done(4, 4, Check.join(Check.of(10, 0x80FF0000), BOX_AND_FILL));
    x.optimise();
    int[] before = Check.look(x);
    due("one()", x.one(), 1);
    Check.unchanged("one() at the end", before, x);
  }

  static void promise6_anEmptyListIsAtItsEnd() {
    due("one()", Check.ready(4, 4).one(), 1);
  }

  static void promise6_aListThatWasNotLookedOver() {
    ListPainter x = Check.with(4, 4, BOX_AND_FILL);
    int[] before = Check.look(x);
    due("one()", x.one(), -2);
    Check.unchanged("one()", before, x);
    due("one() of an empty list", new ListPainter(4, 4).one(), -2);
  }

  static void promise6_aListWithAFault() {
    ListPainter x = Check.with(4, 4, Check.join(BOX_AND_FILL, Check.of(15)));
    x.verify();
    int[] before = Check.look(x);
    due("one()", x.one(), -2);
    due("one() again", x.one(), -2);
    Check.unchanged("one()", before, x);
  }

  // ---- 7: render

  private static ListPainter threeColours() {
    return Check.ready(4, 4, 10, 7, 10, 8, 10, 9);
  }

  static void promise7_atMostN() {
    ListPainter x = threeColours();
    int[] colours = {Check.BLACK, 7, 8, 9, 9};
    for (int n = 0; n <= 4; n++) {
      due("render(" + n + ")", x.render(n), n < 3 ? 1 : 0);
      due("state(4) behind " + n, x.state(4), colours[n]);
      due("state(1) behind " + n, x.state(1), 2 * Math.min(n, 3));
    }
  }

  static void promise7_renderOfNoneIsAtTheBeginning() {
    ListPainter x = Check.ready(4, 4, Check.join(Check.of(10, 5), BOX_AND_FILL));
    int[] first = Check.look(x);
    x.one();
    x.one();
    due("render(0)", x.render(0), 1);
    Check.unchanged("render(0)", first, x);
  }

  static void promise7_anEmptyListIsDoneByNone() {
    due("render(0)", Check.ready(1, 1).render(0), 0);
    due("render(100000)", Check.ready(1, 1).render(100000), 0);
  }

  static void promise7_theMostN() {
    due("render(100000)", threeColours().render(100000), 0);
  }

  static void promise7_anotherNIsBadAndChangesNothing() {
    ListPainter x = threeColours();
    x.render(1);
    int[] before = Check.look(x);
    int[] others = {-1, 100001, Check.LEAST, Check.MOST};
    for (int n : others) {
      due("render(" + n + ")", x.render(n), ListPainter.BAD);
      Check.unchanged("render(" + n + ")", before, x);
    }
    due("one()", x.one(), 0);
    due("state(4)", x.state(4), 8);
  }

  static void promise7_aListThatWasNotLookedOver() {
    ListPainter x = Check.with(4, 4, BOX_AND_FILL);
    int[] before = Check.look(x);
    due("render(1)", x.render(1), -2);
    due("render(0)", x.render(0), -2);
    due("render(-1)", x.render(-1), -2);
    due("render(100001)", x.render(100001), -2);
    Check.unchanged("render()", before, x);
  }

  static void promise7_aListWithAFault() {
    ListPainter x = Check.with(4, 4, Check.join(BOX_AND_FILL, Check.of(15)));
    x.verify();
    due("render(1)", x.render(1), -2);
    due("render(-1)", x.render(-1), -2);
    due("pixel(0, 0)", x.pixel(0, 0), 0);
  }

  static void promise7_fromTheBeginningOn() {
    ListPainter x = Check.ready(6, 5, 8, 0, 0, 1, 1, 1, 12, 5, 1, 2, 3, 4, 5, 13, 1, 2, 3, 9, 10, 77, 11, 3, 2);
    int[] first = Check.look(x);
    x.render(6);
    due("state(3) in the midst", x.state(3), 1);
    x.render(0);
    Check.unchanged("render(0)", first, x);
    x.render(6);
    due("state(3) is counted from 0 on", x.state(3), 1);
    due("state(16) is counted from 0 on", x.state(16), 4);
    due("state(8) is of the SHEET", x.state(8), 4);
  }

  static void promise7_oneGoesOnThere() {
    ListPainter x = threeColours();
    x.render(1);
    due("one()", x.one(), 0);
    due("state(4)", x.state(4), 8);
    due("one()", x.one(), 0);
    due("one()", x.one(), 1);
    due("render(3)", x.render(3), 0);
    due("one() behind all", x.one(), 1);
  }

  static void promise7_pixelsStayFromBefore() {
    ListPainter x = Check.ready(2, 1, 10, 0x80FFFFFF, 8, 0, 0, Check.U, Check.U, 9, 0);
    x.render(3);
    due("pixel(0, 0)", x.pixel(0, 0), 0x80808080);
    x.render(3);
    // COVER is (255 * 128 + 128 * 127 + 127) / 255, as is each of the others.
    due("pixel(0, 0) twice", x.pixel(0, 0), 0xC0C0C0C0);
    due("pixel(1, 0)", x.pixel(1, 0), 0);
  }

  static void promise7_aFullListOfCommands() {
    ListPainter x = filled(Check.FULL);
    x.verify();
    due("render(1499)", x.render(1499), 1);
    due("one()", x.one(), 0);
    due("one()", x.one(), 1);
  }

  // ---- 8: optimise

  static void promise8_howManyWordsItHas() {
    ListPainter x = Check.ready(4, 4, Check.join(Check.of(3), BOX_AND_FILL, Check.of(10, 5)));
    due("optimise()", x.optimise(), 7);
    due("optimise() again", x.optimise(), 7);
    for (int i = 0; i < 7; i++) {
      due("shorter(" + i + ")", x.shorter(i), BOX_AND_FILL[i]);
    }
  }

  static void promise8_anEmptyList() {
    due("optimise()", Check.ready(4, 4).optimise(), 0);
  }

  static void promise8_aFullListOfWhichAllGoes() {
    ListPainter x = filled(Check.FULL);
    x.verify();
    due("optimise()", x.optimise(), 0);
    due("state(0)", x.state(0), 1500);
  }

  static void promise8_aFullListOfWhichNothingGoes() {
    int[] words = Check.join(Check.of(8, 0, 0, Check.U, Check.U, 7, 9, 0), Check.times(373, 10, 0, 9, 1));
    for (int i = 9; i < words.length; i += 4) {
      words[i] = i;
    }
    ListPainter x = Check.ready(4, 4, words);
    due("optimise()", x.optimise(), 1500);
    for (int i = 0; i < 16; i++) {
      due("shorter(" + i * 100 + ")", x.shorter(i * 100), i < 15 ? words[i * 100] : Check.NOT_TOLD);
    }
    due("shorter(1499)", x.shorter(1499), 1);
    due("renderShorter(748)", x.renderShorter(748), 1);
    due("renderShorter(749)", x.renderShorter(749), 0);
  }

  static void promise8_aListThatWasNotLookedOver() {
    ListPainter x = Check.with(4, 4, BOX_AND_FILL);
    due("optimise()", x.optimise(), -2);
    noShorter("behind that", x);
    due("optimise() of an empty list", new ListPainter(4, 4).optimise(), -2);
  }

  static void promise8_aListWithAFault() {
    ListPainter x = Check.with(4, 4, 1);
    x.verify();
    due("optimise()", x.optimise(), -2);
    noShorter("behind that", x);
  }

  static void promise8_nothingElseChanges() {
    ListPainter x = Check.ready(4, 4, Check.join(Check.of(1, 10, 5, 13, 0, 0, 2, 2, 12, Check.U, 0, 0, Check.U, 7, 0),
        BOX_AND_FILL, Check.of(2, 3)));
    x.render(5);
    x.optimise();
    int[] before = Check.look(x);
    due("optimise()", x.optimise(), 23);
    Check.unchanged("optimise()", before, x);
    due("state(1)", x.state(1), 20);
    due("state(3)", x.state(3), 1);
    due("state(14)", x.state(14), 7);
    due("state(16)", x.state(16), 4);
    due("sum()", x.sum(), new ListPainter(4, 4).sum());
    due("one()", x.one(), 0);
  }

  static void promise8_itGoesByTheListAndNotByWhereItIs() {
    ListPainter x = Check.ready(4, 4, Check.join(Check.of(3, 10, 5), BOX_AND_FILL));
    due("optimise() at the beginning", x.optimise(), 9);
    x.render(3);
    due("optimise() in the midst", x.optimise(), 9);
    x.render(4);
    due("optimise() at the end", x.optimise(), 9);
  }

  // ---- 9: shorter

  private static ListPainter shortened() {
    ListPainter x = Check.ready(4, 4, Check.join(Check.of(3), BOX_AND_FILL, Check.of(10, 5)));
    x.optimise();
    return x;
  }

  static void promise9_wordIOfIt() {
    ListPainter x = shortened();
    for (int i = 0; i < 7; i++) {
      due("shorter(" + i + ")", x.shorter(i), BOX_AND_FILL[i]);
    }
  }

  static void promise9_noneSuch() {
    ListPainter x = shortened();
    int[] none = {-1, 7, 8, 9, 10, 1499, 1500, Check.LEAST, Check.MOST};
    for (int i : none) {
      due("shorter(" + i + ")", x.shorter(i), Check.NOT_TOLD);
    }
  }

  static void promise9_ofAnEmptyOneNoneSuch() {
    ListPainter x = Check.ready(4, 4, 10, 5);
    due("optimise()", x.optimise(), 0);
    due("shorter(0)", x.shorter(0), Check.NOT_TOLD);
    due("shorter(-1)", x.shorter(-1), Check.NOT_TOLD);
  }

  static void promise9_noneWasMade() {
    ListPainter x = Check.ready(4, 4, BOX_AND_FILL);
    due("shorter(0)", x.shorter(0), Check.NOT_TOLD);
  }

  static void promise9_noneWasMadeSinceFeed() {
    ListPainter x = shortened();
    x.feed(3);
    due("shorter(0)", x.shorter(0), Check.NOT_TOLD);
    x.verify();
    due("shorter(0) behind verify()", x.shorter(0), Check.NOT_TOLD);
    x.optimise();
    due("shorter(0) behind optimise()", x.shorter(0), 8);
  }

  static void promise9_noneWasMadeSinceFive() {
    ListPainter x = shortened();
    x.five(3, 3, 3, 3, 3);
    due("shorter(0)", x.shorter(0), Check.NOT_TOLD);
  }

  static void promise9_noneWasMadeSinceReset() {
    ListPainter x = shortened();
    x.reset();
    due("shorter(0)", x.shorter(0), Check.NOT_TOLD);
    Check.feedAll(x, BOX_AND_FILL);
    x.verify();
    due("shorter(0) behind the same list", x.shorter(0), Check.NOT_TOLD);
  }

  static void promise9_itStaysWhileTheListDoes() {
    ListPainter x = shortened();
    x.verify();
    x.render(2);
    x.one();
    x.clear(5);
    x.renderShorter(9);
    due("shorter(0)", x.shorter(0), 8);
    due("shorter(6)", x.shorter(6), 0);
  }

  // ---- 10: renderShorter

  static void promise10_asRenderByWhatIsShorter() {
    ListPainter x = shortened();
    due("renderShorter(0)", x.renderShorter(0), 1);
    due("renderShorter(1)", x.renderShorter(1), 1);
    due("pixel(0, 0)", x.pixel(0, 0), 0);
    due("renderShorter(2)", x.renderShorter(2), 0);
    due("pixel(0, 0) behind FILL", x.pixel(0, 0), Check.BLACK);
    due("renderShorter(3)", x.renderShorter(3), 0);
  }

  static void promise10_fromTheBeginningOnEachTime() {
    ListPainter x = shortened();
    due("renderShorter(1)", x.renderShorter(1), 1);
    due("renderShorter(1) again", x.renderShorter(1), 1);
    due("pixel(0, 0)", x.pixel(0, 0), 0);
  }

  static void promise10_theMostN() {
    due("renderShorter(100000)", shortened().renderShorter(100000), 0);
  }

  static void promise10_anotherNIsBadAndChangesNothing() {
    ListPainter x = shortened();
    int[] before = Check.look(x);
    int[] others = {-1, 100001, Check.LEAST, Check.MOST};
    for (int n : others) {
      due("renderShorter(" + n + ")", x.renderShorter(n), ListPainter.BAD);
      Check.unchanged("renderShorter(" + n + ")", before, x);
    }
  }

  static void promise10_anEmptyOneIsDoneByNone() {
    ListPainter x = Check.ready(4, 4, 10, 5);
    x.optimise();
    due("renderShorter(0)", x.renderShorter(0), 0);
    due("renderShorter(1)", x.renderShorter(1), 0);
  }

  static void promise10_noneWasMade() {
    ListPainter x = Check.ready(4, 4, BOX_AND_FILL);
    int[] ns = {0, 1, -1, 100000, 100001};
    for (int n : ns) {
      due("renderShorter(" + n + ")", x.renderShorter(n), -2);
    }
    due("pixel(0, 0)", x.pixel(0, 0), 0);
  }

  static void promise10_noneWasMadeSinceTheListChanged() {
    ListPainter x = shortened();
    x.feed(3);
    due("renderShorter(9) behind feed()", x.renderShorter(9), -2);
    x.verify();
    due("renderShorter(9) behind verify()", x.renderShorter(9), -2);
    due("pixel(0, 0)", x.pixel(0, 0), 0);
    x.optimise();
    due("renderShorter(9) behind optimise()", x.renderShorter(9), 0);
  }

  static void promise10_itWantsNoLookOverOfItsOwn() {
    ListPainter x = shortened();
    due("verify()", x.verify(), 0);
    due("renderShorter(9)", x.renderShorter(9), 0);
  }

  /** In the midst of a list with all that one() goes by: it stays, and the path too. */
  static void promise10_oneGoesOnAsItWouldHaveBefore() {
    int u = Check.U;
    ListPainter x = Check.ready(4, 2, 4, 0, 0, 5, 0, u, 1, 13, 0, 0, 2, 1, 10, 77, 11, 1, 12, u, 0, 0, u, u, 0,
        5, u, u, 5, u, 0, 9, 0, 2);
    x.optimise();
    x.render(7);
    int[] before = Check.look(x);
    due("renderShorter(0)", x.renderShorter(0), 1);
    Check.unchanged("renderShorter(0)", before, x);
    due("renderShorter(100)", x.renderShorter(100), 0);
    Check.shows("by SHORTER", x, "##..", "....");
    x.clear(0);
    Check.unchanged("renderShorter(100) and clear()", before, x);
    due("one()", x.one(), 0);
    due("one()", x.one(), 0);
    due("one(), the FILL", x.one(), 0);
    Check.shows("by one()", x, "##..", "....");
    due("pixel(0, 0)", x.pixel(0, 0), 77);
    due("state(17)", x.state(17), 1);
    due("state(18)", x.state(18), 2);
  }

  static void promise10_oneAtTheEndStaysThere() {
    ListPainter x = shortened();
    x.render(9);
    due("renderShorter(1)", x.renderShorter(1), 1);
    due("one()", x.one(), 1);
    due("state(1)", x.state(1), 10);
  }

  static void promise10_oneAtTheBeginningStaysThere() {
    ListPainter x = shortened();
    due("renderShorter(9)", x.renderShorter(9), 0);
    due("state(1)", x.state(1), 0);
    due("one()", x.one(), 0);
    due("state(1) behind PATH", x.state(1), 1);
  }

  static void promise10_countsAreItsOwn() {
    ListPainter x = shortened();
    x.render(9);
    due("renderShorter(9)", x.renderShorter(9), 0);
    due("state(17)", x.state(17), 1);
    due("state(18)", x.state(18), 2);
  }

  // ---- 11: pixel

  static void promise11_theFirstAndTheLastPixel() {
    int u = Check.U;
    ListPainter x = Check.done(3, 2, 11, 1, 10, 8, 8, 0, 0, u, u, 9, 0, 3, 10, 9, 8, 2 * u, u, u, u, 9, 0);
    due("pixel(0, 0)", x.pixel(0, 0), 8);
    due("pixel(2, 1)", x.pixel(2, 1), 9);
    due("pixel(1, 0)", x.pixel(1, 0), 0);
    due("pixel(0, 1)", x.pixel(0, 1), 0);
  }

  static void promise11_outsideIsBad() {
    ListPainter x = new ListPainter(3, 2);
    x.clear(7);
    int[] outside = {-1, 0, 3, 0, 0, -1, 0, 2, 2, 2, 3, 1, -1, -1, 3, 2, Check.LEAST, 0, 0, Check.LEAST, Check.MOST, 0, 0,
        Check.MOST, Check.MOST, Check.MOST, Check.LEAST, Check.LEAST};
    for (int i = 0; i < outside.length; i += 2) {
      due("pixel(" + outside[i] + ", " + outside[i + 1] + ")", x.pixel(outside[i], outside[i + 1]), 1);
    }
  }

  static void promise11_outsideOfTheLargestSheet() {
    ListPainter x = new ListPainter(32, 32);
    x.clear(7);
    due("pixel(31, 31)", x.pixel(31, 31), 7);
    due("pixel(32, 0)", x.pixel(32, 0), 1);
    due("pixel(0, 32)", x.pixel(0, 32), 1);
  }

  // ---- 12: clear

  static void promise12_allPixelsBecomeP() {
    ListPainter x = Check.done(3, 2, BOX_AND_FILL);
    int[] ps = {-5, 0, 1, Check.LEAST, Check.MOST};
    for (int p : ps) {
      x.clear(p);
      for (int i = 0; i < 6; i++) {
        due("pixel " + i + " behind clear(" + p + ")", x.pixel(i % 3, i / 3), p);
      }
    }
  }

  static void promise12_nothingElseChanges() {
    ListPainter x = shortened();
    x.render(3);
    int[] before = Check.look(x);
    int sum = x.sum();
    x.clear(99);
    x.clear(0);
    due("sum() of a cleared sheet", x.sum(), new ListPainter(4, 4).sum());
    int[] now = Check.look(x);
    before[39] = now[39];
    Check.unchanged("clear()", before, x);
    due("render(3) paints it again", x.render(3), 1);
    due("sum() is as before", x.sum(), sum);
  }

  static void promise12_itWantsNoList() {
    ListPainter x = new ListPainter(1, 1);
    x.clear(6);
    due("pixel(0, 0)", x.pixel(0, 0), 6);
    notReady("behind clear()", x);
  }

  // ---- 13: sum

  static void promise13_oneIsThereAtFirst() {
    ListPainter x = new ListPainter(1, 1);
    due("sum() of 0", x.sum(), 31);
    x.clear(5);
    due("sum() of 5", x.sum(), 36);
    x.clear(-31);
    due("sum() of -31", x.sum(), 0);
  }

  static void promise13_rowByRow() {
    int u = Check.U;
    ListPainter x = Check.done(2, 2, 10, 1, 11, 1, 8, u, 0, u, u, 9, 0, 3, 10, 2, 8, 0, u, u, u, 9, 0);
    due("sum()", x.sum(), (((31 + 0) * 31 + 1) * 31 + 2) * 31 + 0);
  }

  static void promise13_itWraps() {
    ListPainter x = new ListPainter(2, 1);
    x.clear(Check.MOST);
    // 31 and the most there is, times 31, and that again: 32 times 2^31 - 1, and 961, in 32 bits.
    due("sum() of two of the most", x.sum(), 961 - 32);
    ListPainter y = new ListPainter(32, 32);
    int s = 1;
    for (int i = 0; i < 1024; i++) {
      s *= 31;
    }
    due("sum() of 1,024 times 0", y.sum(), s);
  }

  // ---- 14: state

  static void promise14_atFirst() {
    ListPainter x = Check.ready(6, 5, BOX_AND_FILL);
    int[] first = {7, 0, -2, 0, Check.BLACK, 0, 0, 0, 6, 5, Check.U, 0, 0, Check.U, 0, 0, 0, 0, 0};
    for (int what = 0; what <= 18; what++) {
      due("state(" + what + ")", x.state(what), first[what]);
    }
  }

  static void promise14_inTheMidst() {
    int u = Check.U;
    ListPainter x = Check.ready(6, 5, 1, 12, 2 * u, 1, 2, 3 * u, 4, 5, 13, 1, 2, 3, 9, 10, 77, 11, 3, 8, 0, 0, 1, 1, 2);
    due("render(6)", x.render(6), 1);
    int[] then = {23, 22, -2, 1, 77, 3, 1, 2, 4, 5, 2 * u, 1, 2, 3 * u, 4, 5, 4, 0, 0};
    for (int what = 0; what <= 18; what++) {
      due("state(" + what + ")", x.state(what), then[what]);
    }
    x.one();
    int[] atEnd = {23, 23, -2, 0, Check.BLACK, 0, 0, 0, 6, 5, u, 0, 0, u, 0, 0, 4, 0, 0};
    for (int what = 0; what <= 18; what++) {
      due("state(" + what + ") at the end", x.state(what), atEnd[what]);
    }
  }

  static void promise14_anotherNumberIsBad() {
    ListPainter x = Check.done(6, 5, BOX_AND_FILL);
    int[] others = {-1, 19, 20, -2, Check.LEAST, Check.MOST};
    for (int what : others) {
      due("state(" + what + ")", x.state(what), Check.NOT_TOLD);
      due("state(" + what + ") not looked over", new ListPainter(2, 2).state(what), Check.NOT_TOLD);
    }
  }

  private static void onlyWordsAndFaultAreTold(String when, ListPainter x) {
    for (int what = 0; what <= 18; what++) {
      due(when + ": is state(" + what + ") told", x.state(what) == Check.NOT_TOLD ? 0 : 1, what == 0 || what == 2 ? 1 : 0);
    }
  }

  static void promise14_whatIsToldOfAListThatWasNotLookedOver() {
    ListPainter x = Check.with(4, 4, BOX_AND_FILL);
    onlyWordsAndFaultAreTold("before verify()", x);
    x.verify();
    x.render(2);
    x.feed(3);
    onlyWordsAndFaultAreTold("behind feed()", x);
    x.verify();
    x.five(3, 3, 3, 3, 3);
    onlyWordsAndFaultAreTold("behind five()", x);
    x.verify();
    x.reset();
    onlyWordsAndFaultAreTold("behind reset()", x);
  }

  static void promise14_whatIsToldOfAListWithAFault() {
    ListPainter x = Check.with(4, 4, 8, 0, 0, 1, 1, 77);
    x.verify();
    onlyWordsAndFaultAreTold("with a FAULT", x);
    due("state(0)", x.state(0), 6);
    due("state(2)", x.state(2), 5);
  }

  static void promise14_thePlaceOfTheNextCommand() {
    ListPainter x = Check.ready(4, 4, 1, 2, 3, 4, 0, 0, 5, 0, 0, 6, 0, 0, 0, 0, 7, 8, 0, 0, 0, 0, 9, 0, 10, 0, 11, 0,
        12, 0, 0, 0, 0, 0, 0, 13, 0, 0, 0, 0, 14);
    int[] places = {0, 1, 2, 3, 6, 9, 14, 15, 20, 22, 24, 26, 33, 38, 39};
    for (int i = 0; i < places.length; i++) {
      due("state(1) before COMMAND " + i, x.state(1), places[i]);
      due("one()", x.one(), i == 14 ? 1 : 0);
    }
    due("state(1) at the end", x.state(1), 39);
  }

  static void promise14_noFaultIsNone() {
    due("state(2) of a new object", new ListPainter(2, 2).state(2), ListPainter.NONE);
    due("state(2) of a right list", Check.ready(2, 2, 3).state(2), ListPainter.NONE);
  }

  static void promise14_thePlaceOfTheLastFault() {
    ListPainter x = Check.with(2, 2, 0);
    due("state(2) before verify()", x.state(2), ListPainter.NONE);
    x.verify();
    due("state(2) of a FAULT at 0", x.state(2), 0);
    x.feed(3);
    due("state(2) behind feed()", x.state(2), 0);
    x.reset();
    due("state(2) behind reset()", x.state(2), 0);
    Check.feedAll(x, 3, 3, 2);
    x.verify();
    due("state(2) of a FAULT at 2", x.state(2), 2);
    x.reset();
    Check.feedAll(x, 1, 10, 5);
    x.verify();
    due("state(2) of a SAVE that is open: how many words", x.state(2), 3);
    x.feed(2);
    x.verify();
    due("state(2) without FAULT", x.state(2), ListPainter.NONE);
  }

  static void promise14_thePlaceOfAFaultInTheLastWordOfAFullList() {
    ListPainter x = filled(1499);
    x.feed(0);
    due("verify()", x.verify(), 1);
    due("state(2)", x.state(2), 1499);
    x = filled(1499);
    x.feed(1);
    due("verify() of a SAVE", x.verify(), 8);
    due("state(2) of a SAVE", x.state(2), 1500);
  }

  static void promise14_savesThatAreOpen() {
    ListPainter x = Check.ready(2, 2, Check.join(Check.times(8, 1), Check.times(8, 2)));
    for (int i = 0; i <= 16; i++) {
      due("state(3) behind " + i, x.state(3), i <= 8 ? i : 16 - i);
      x.one();
    }
  }

  static void promise14_coloursOfAllBits() {
    int[] colours = {0, -1, 1, Check.LEAST, Check.MOST};
    for (int colour : colours) {
      due("state(4)", Check.done(2, 2, 10, colour).state(4), colour);
    }
  }

  static void promise14_linesOfThePath() {
    ListPainter x = Check.ready(2, 2, Check.join(Check.of(4, 0, 0, 5, 0, 0, 6, 0, 0, 0, 0, 7, 8, 0, 0, 0, 0),
        Check.times(286, 7), Check.of(9, 0, 4, 0, 0, 1, 2, 3)));
    int[] lines = {0, 0, 1, 9, 10, 14};
    for (int i = 0; i < lines.length; i++) {
      due("state(16) behind " + i, x.state(16), lines[i]);
      x.one();
    }
    x.render(5 + 286);
    due("state(16), the most", x.state(16), 300);
    for (int i = 0; i < 4; i++) {
      due("one()", x.one(), 0);
      due("state(16) stays behind FILL, BEGIN, SAVE, BRING BACK", x.state(16), 300);
    }
    x.one();
    due("state(16) behind PATH", x.state(16), 0);
  }

  static void promise14_onlyFillsThatPaintedAreCounted() {
    int u = Check.U;
    ListPainter x = Check.ready(2, 2, 9, 0, 8, 0, 0, u, u, 9, 0, 9, 1, 13, 1, 1, 1, 1, 9, 0, 13, 0, 0, 1, 1, 9, 1);
    int[] fills = {0, 0, 0, 1, 2, 2, 2, 2, 2};
    for (int i = 0; i < fills.length; i++) {
      due("state(17) behind " + i, x.state(17), fills[i]);
      due("state(18) behind " + i, x.state(18), fills[i]);
      x.one();
    }
  }

  static void promise14_pixelsAreCountedEachTime() {
    ListPainter x = Check.ready(4, 4, Check.join(BOX_AND_FILL, Check.of(9, 1)));
    x.render(9);
    due("state(18)", x.state(18), 4);
    x.render(9);
    due("state(17) since verify()", x.state(17), 4);
    due("state(18) since verify()", x.state(18), 8);
    x.render(0);
    due("state(18) at the beginning again", x.state(18), 8);
  }

  /** So many pixels need more than the 512 calls that are promised; the number must not run over there either. */
  static void promise14_pixelsAreCountedModulo2To30() {
    int side = 32 * Check.U;
    ListPainter x = Check.ready(32, 32, Check.join(Check.of(11, 1, 8, 0, 0, side, side), Check.times(746, 9, 0)));
    long want = 0;
    for (int i = 0; i < 1407; i++) {
      x.render(100000);
      want += 1024 * 746;
      due("state(18) behind " + want, x.state(18), want % (1 << 30));
    }
    due("are there more than 2 to the 30th", want > 1 << 30 ? 1 : 0, 1);
  }

  static void promise14_aPixelThatStaysTheSameIsPaintedToo() {
    ListPainter x = Check.done(2, 1, Check.join(Check.of(10, 0), BOX_AND_FILL));
    due("state(17)", x.state(17), 1);
    due("state(18)", x.state(18), 2);
    due("pixel(0, 0)", x.pixel(0, 0), 0);
  }

  // ---- README.md

  static void readme_theExampleAnswersAsItSays() {
    ListPainter painter = new ListPainter(8, 8);
    due("five(8, ..)", painter.five(8, 65536, 65536, 131072, 131072), 5);
    due("five(10, ..)", painter.five(10, 0xFFFF0000, 9, 0, 3), 10);
    due("verify()", painter.verify(), 0);
    due("render(100)", painter.render(100), 0);
    due("pixel(1, 1)", painter.pixel(1, 1), 0xFFFF0000);
    due("pixel(3, 3)", painter.pixel(3, 3), 0);
    due("state(18)", painter.state(18), 4);
    due("optimise()", painter.optimise(), 9);
    due("shorter(8)", painter.shorter(8), 0);
    painter.clear(-1);
    due("renderShorter(100)", painter.renderShorter(100), 0);
    due("pixel(1, 1) by SHORTER", painter.pixel(1, 1), 0xFFFF0000);
    due("pixel(3, 3) by SHORTER", painter.pixel(3, 3), -1);
  }

  public static void main(String[] args) {
    Check.runAll(PromisesTest.class);
  }
}
