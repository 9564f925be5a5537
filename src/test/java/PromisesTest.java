/** Promises 1 to 14: ordinary inputs, the edges that the document names, and wrong inputs. */
public final class PromisesTest {
  private static final int NOT_TOLD = -2000000000;
  private static final int U = 65536;
  private static final int BLACK = 0xFF000000;
  private static int wrong = 0;

  private static void due(String what, long got, long want) {
    if (got != want) {
      wrong++;
      System.out.println(what + " answered " + got + ", due is " + want);
    }
  }

  private static ListPainter with(int w, int h, int... words) {
    ListPainter x = new ListPainter(w, h);
    feedAll(x, words);
    return x;
  }

  private static void feedAll(ListPainter x, int... words) {
    int i = 0;
    for (; i + 5 <= words.length; i += 5) {
      x.five(words[i], words[i + 1], words[i + 2], words[i + 3], words[i + 4]);
    }
    for (; i < words.length; i++) {
      x.feed(words[i]);
    }
  }

  private static ListPainter ready(int w, int h, int... words) {
    ListPainter x = with(w, h, words);
    due("verify of a right list", x.verify(), 0);
    return x;
  }

  private static ListPainter done(int w, int h, int... words) {
    ListPainter x = ready(w, h, words);
    due("render of a right list", x.render(100000), 0);
    return x;
  }

  private static void fault(String what, int fault, int place, int... words) {
    ListPainter x = with(4, 4, words);
    due(what + ": verify()", x.verify(), fault);
    due(what + ": state(2)", x.state(2), place);
  }

  /** The rows as text: a '#' for each PIXEL that is not 0. */
  private static void shows(String what, ListPainter x, String... rows) {
    for (int y = 0; y < rows.length; y++) {
      StringBuilder row = new StringBuilder();
      for (int i = 0; i < rows[y].length(); i++) {
        row.append(x.pixel(i, y) != 0 ? '#' : '.');
      }
      if (!row.toString().equals(rows[y])) {
        wrong++;
        System.out.println(what + ", row " + y + " is " + row + ", due is " + rows[y]);
      }
    }
  }

  private static int[] join(int[]... parts) {
    int length = 0;
    for (int[] part : parts) {
      length += part.length;
    }
    int[] all = new int[length];
    int at = 0;
    for (int[] part : parts) {
      System.arraycopy(part, 0, all, at, part.length);
      at += part.length;
    }
    return all;
  }

  private static int[] times(int n, int... words) {
    int[] all = new int[n * words.length];
    for (int i = 0; i < all.length; i++) {
      all[i] = words[i % words.length];
    }
    return all;
  }

  private static void promise1() {
    ListPainter least = new ListPainter(0, -7);
    due("1: pixel(0, 0) of the least sheet", least.pixel(0, 0), 0);
    due("1: pixel(1, 0) of the least sheet", least.pixel(1, 0), 1);
    due("1: pixel(0, 1) of the least sheet", least.pixel(0, 1), 1);
    due("1: sum() of the least sheet", least.sum(), 31);
    ListPainter greatest = new ListPainter(33, Integer.MAX_VALUE);
    due("1: pixel(31, 31) of the greatest sheet", greatest.pixel(31, 31), 0);
    due("1: pixel(32, 31) of the greatest sheet", greatest.pixel(32, 31), 1);
    due("1: pixel(31, 32) of the greatest sheet", greatest.pixel(31, 32), 1);
    ListPainter x = new ListPainter(5, 3);
    due("1: pixel(4, 2)", x.pixel(4, 2), 0);
    due("1: pixel(5, 2)", x.pixel(5, 2), 1);
    due("1: state(0)", x.state(0), 0);
    due("1: state(2)", x.state(2), ListPainter.NONE);
    due("1: one()", x.one(), -2);
    due("1: BAD", ListPainter.BAD, -1);
    due("1: NONE", ListPainter.NONE, -2);
  }

  private static void promise2And3() {
    ListPainter x = new ListPainter(2, 2);
    due("2: feed(3)", x.feed(3), 1);
    due("2: feed(3)", x.feed(3), 2);
    due("3: five()", x.five(3, 3, 3, 3, 3), 7);
    x.verify();
    due("2: one() before feed", x.one(), 0);
    x.feed(3);
    due("2: one() behind feed", x.one(), -2);
    due("2: state(1) behind feed", x.state(1), NOT_TOLD);
    x.verify();
    x.five(3, 3, 3, 3, 3);
    due("3: one() behind five", x.one(), -2);
    x.reset();
    for (int i = 0; i < 299; i++) {
      x.five(3, 3, 3, 3, 3);
    }
    due("2: feed to 1496", x.feed(3), 1496);
    x.verify();
    x.optimise();
    due("3: five() with room for 4", x.five(1, 1, 1, 1, 1), -1);
    due("3: nothing changed", x.state(0), 1496);
    due("3: it is still looked over", x.one(), 0);
    due("3: SHORTER is still there", x.renderShorter(1), 0);
    due("2: feed to 1497", x.feed(3), 1497);
    x.feed(3);
    x.feed(3);
    due("2: feed to 1500", x.feed(3), 1500);
    x.verify();
    due("2: feed to 1501", x.feed(1), -1);
    due("2: still 1500", x.state(0), 1500);
    due("2: still looked over", x.render(1500), 0);
    due("2: all 1500 were there", x.state(1), 1500);
    ListPainter y = new ListPainter(2, 2);
    for (int i = 0; i < 299; i++) {
      y.five(3, 3, 3, 3, 3);
    }
    due("3: five() to 1500", y.five(3, 3, 3, 3, 3), 1500);
    due("3: five() behind 1500", y.five(3, 3, 3, 3, 3), -1);
  }

  private static void promise4() {
    ListPainter x = ready(4, 4, 8, 0, 0, U, U, 9, 0);
    x.optimise();
    due("4: reset()", x.reset(), 7);
    due("4: state(0)", x.state(0), 0);
    due("4: one()", x.one(), -2);
    due("4: shorter(0)", x.shorter(0), NOT_TOLD);
    due("4: renderShorter(1)", x.renderShorter(1), -2);
    due("4: reset() again", x.reset(), 0);
    due("4: verify()", x.verify(), 0);
    due("4: one() of an empty list", x.one(), 1);
  }

  private static void promise5Words() {
    fault("no C, 0", 1, 0, 0);
    fault("no C, 15", 1, 1, 3, 15);
    fault("no C, less than 0", 1, 1, 14, -1);
    fault("no C, the least number", 1, 0, Integer.MIN_VALUE);
    int[] lengths = {0, 1, 1, 1, 3, 3, 5, 1, 5, 2, 2, 2, 7, 5, 1};
    for (int c = 4; c <= 13; c++) {
      int[] begun = {3, 4, 0, 0};
      int[] cut = new int[lengths[c] - 1];
      if (cut.length > 0) {
        cut[0] = c;
        fault("words are missing of " + c, 2, 4, join(begun, cut));
        int[] whole = new int[lengths[c]];
        whole[0] = c;
        fault("no words are missing of " + c, 0, -2, join(begun, whole));
      }
    }
    fault("missing comes before out of bounds", 2, 0, 4, 67108864);
    int bound = 67108864;
    int[][] tooFar = {{4, 0, bound}, {4, -bound, 0}, {5, bound, 0}, {5, 0, Integer.MIN_VALUE}, {6, 0, 0, 0, bound},
        {6, 0, -bound, 0, 0}, {8, 0, 0, bound, 0}, {8, 0, 0, 0, -bound}, {9, 2}, {9, -1}, {11, 5}, {11, -1},
        {13, 1000000, 0, 1, 1}, {13, 0, -1000000, 1, 1}, {13, 0, 0, 1000001, 1}, {13, 0, 0, 1, -1}};
    for (int[] command : tooFar) {
      fault("out of bounds of " + command[0], 3, 3, join(new int[] {4, 0, 0}, command));
    }
    int far = bound - 1;
    int[][] justRight = {{4, far, -far}, {5, -far, far}, {6, far, -far, far, -far}, {8, far, far, far, far},
        {8, -far, -far, -far, -far}, {9, 1}, {11, 4}, {13, 999999, -999999, 1000000, 0}, {10, Integer.MIN_VALUE},
        {12, Integer.MIN_VALUE, Integer.MAX_VALUE, -1, 1, Integer.MIN_VALUE, Integer.MAX_VALUE}};
    for (int[] command : justRight) {
      fault("within bounds of " + command[0], 0, -2, join(new int[] {4, 0, 0}, command));
    }
  }

  private static void promise5Order() {
    fault("BRING BACK alone", 4, 0, 2);
    fault("one BRING BACK too many", 4, 2, 1, 2, 2);
    fault("the ninth SAVE", 5, 8, times(9, 1));
    fault("eight SAVES at once", 0, -2, join(times(8, 1), times(8, 2)));
    fault("nine SAVES, not at once", 0, -2, times(9, 1, 2));
    fault("LINE without outline", 6, 0, 5, 0, 0);
    fault("CURVE without outline", 6, 0, 6, 0, 0, 0, 0);
    fault("CLOSE without outline", 6, 0, 7);
    fault("LINE behind PATH", 6, 4, 4, 0, 0, 3, 5, 0, 0);
    fault("out of bounds comes before the outline", 3, 0, 5, 0, 67108864);
    fault("LINE behind BOX", 0, -2, 8, 0, 0, 0, 0, 5, 0, 0);
    fault("LINE behind CLOSE", 0, -2, 4, 0, 0, 7, 5, 0, 0);
    fault("LINE behind BRING BACK of what was begun", 0, -2, 1, 4, 0, 0, 2, 5, 0, 0);
    int[] begin = {4, 0, 0};
    fault("300 CLOSES", 0, -2, join(begin, times(300, 7)));
    fault("301 CLOSES", 7, 303, join(begin, times(301, 7)));
    fault("301 LINES", 7, 903, join(begin, times(301, 5, 1, 1)));
    fault("75 BOXES", 0, -2, times(75, 8, 0, 0, 1, 1));
    fault("76 BOXES", 7, 375, times(76, 8, 0, 0, 1, 1));
    fault("37 CURVES and 4 LINES", 0, -2, join(begin, times(37, 6, 0, 0, 1, 1), times(4, 7)));
    fault("37 CURVES and 5 LINES", 7, 192, join(begin, times(37, 6, 0, 0, 1, 1), times(5, 7)));
    fault("BEGIN counts no LINE", 0, -2, join(begin, times(300, 7), begin, begin));
    fault("PATH counts anew", 0, -2, join(begin, times(300, 7), new int[] {3}, begin, times(300, 7)));
    fault("SAVE open at the end", 8, 3, 1, 1, 2);
    fault("the first FAULT is told", 1, 1, 1, 99, 2, 2, 2);
    fault("an empty list", 0, -2);
  }

  private static void promise5State() {
    ListPainter x = done(4, 4, 1, 10, 5, 13, 0, 0, 2, 2, 2, 8, 0, 0, U, U, 9, 0);
    due("5: at the end", x.state(1), 16);
    due("5: verify() again", x.verify(), 0);
    due("5: at its beginning", x.state(1), 0);
    due("5: no LINES there", x.state(16), 0);
    due("5: no FILLS there", x.state(17), 0);
    due("5: no PIXELS there", x.state(18), 0);
    x.feed(77);
    due("5: state(2) before verify()", x.state(2), -2);
    due("5: verify() of a FAULT", x.verify(), 1);
    due("5: state(2) of it", x.state(2), 16);
    due("5: one() with a FAULT", x.one(), -2);
    x.reset();
    due("5: state(2) of the last one", x.state(2), 16);
    due("5: verify() mends it", x.verify(), 0);
    due("5: state(2) without", x.state(2), -2);
  }

  private static void promise6() {
    ListPainter x = with(4, 4, 8, 0, 0, 2 * U, U, 9, 0, 3);
    due("6: not looked over", x.one(), -2);
    x.verify();
    due("6: BOX", x.one(), 0);
    due("6: the next place", x.state(1), 5);
    due("6: LINES", x.state(16), 4);
    due("6: nothing painted yet", x.pixel(0, 0), 0);
    due("6: FILL", x.one(), 0);
    due("6: painted", x.pixel(1, 0), BLACK);
    due("6: not painted", x.pixel(2, 0), 0);
    due("6: PATH", x.one(), 0);
    due("6: LINES behind PATH", x.state(16), 0);
    due("6: the end", x.one(), 1);
    due("6: the end again", x.one(), 1);
    due("6: the end's place", x.state(1), 8);
    due("6: FILLS", x.state(17), 1);
    due("6: PIXELS", x.state(18), 2);
  }

  private static void promise7() {
    ListPainter x = with(4, 4, 10, 7, 10, 8, 10, 9);
    due("7: not looked over", x.render(1), -2);
    due("7: not looked over, and another n", x.render(-1), -2);
    x.verify();
    due("7: render(2)", x.render(2), 1);
    due("7: COLOUR of it", x.state(4), 8);
    due("7: one() goes on there", x.one(), 0);
    due("7: COLOUR of one()", x.state(4), 9);
    due("7: render(1) from the beginning", x.render(1), 1);
    due("7: COLOUR of that", x.state(4), 7);
    due("7: render(-1)", x.render(-1), -1);
    due("7: render(100001)", x.render(100001), -1);
    due("7: BAD changes nothing", x.state(4), 7);
    due("7: render(3)", x.render(3), 0);
    due("7: render(100000)", x.render(100000), 0);
    due("7: render(0)", x.render(0), 1);
    due("7: COLOUR at the beginning", x.state(4), BLACK);
    due("7: place at the beginning", x.state(1), 0);
    due("7: render(0) of an empty list", ready(1, 1).render(0), 0);
    ListPainter y = done(4, 4, 8, 0, 0, 2 * U, U, 9, 0);
    y.render(2);
    due("7: FILLS since verify()", y.state(17), 2);
    due("7: PIXELS since verify()", y.state(18), 4);
  }

  private static void promise8To10() {
    ListPainter x = with(4, 4, 3, 8, 0, 0, U, U, 9, 0, 10, 5);
    due("8: not looked over", x.optimise(), -2);
    due("9: none was made", x.shorter(0), NOT_TOLD);
    due("10: none was made", x.renderShorter(1), -2);
    due("10: none was made, and another n", x.renderShorter(-1), -2);
    x.verify();
    x.one();
    due("10: none was made yet", x.renderShorter(1), -2);
    due("8: optimise()", x.optimise(), 7);
    due("8: the LIST stays", x.state(0), 10);
    due("8: its place stays", x.state(1), 1);
    int[] want = {8, 0, 0, U, U, 9, 0};
    for (int i = 0; i < want.length; i++) {
      due("9: shorter(" + i + ")", x.shorter(i), want[i]);
    }
    due("9: shorter(7)", x.shorter(7), NOT_TOLD);
    due("9: shorter(-1)", x.shorter(-1), NOT_TOLD);
    due("9: shorter of the least", x.shorter(Integer.MIN_VALUE), NOT_TOLD);
    due("10: another n", x.renderShorter(-1), -1);
    due("10: another n", x.renderShorter(100001), -1);
    due("10: not all", x.renderShorter(1), 1);
    due("10: nothing painted", x.sum(), new ListPainter(4, 4).sum());
    due("10: all", x.renderShorter(2), 0);
    due("10: painted", x.pixel(0, 0), BLACK);
    due("10: the LIST's place is as before", x.state(1), 1);
    due("10: LINES are as before", x.state(16), 0);
    due("10: FILLS are as before", x.state(17), 0);
    due("10: PIXELS are as before", x.state(18), 0);
    due("10: one() goes on", x.one(), 0);
    due("10: one() did the BOX", x.state(16), 4);
    x.verify();
    due("9: the LIST did not change", x.shorter(0), 8);
    x.feed(3);
    due("9: the LIST changed", x.shorter(0), NOT_TOLD);
    x.verify();
    due("9: none was made since", x.shorter(0), NOT_TOLD);
    due("10: none was made since", x.renderShorter(1), -2);
    due("8: optimise() again", x.optimise(), 7);
  }

  private static void promise11To13() {
    ListPainter x = new ListPainter(3, 2);
    int[] outside = {-1, 0, 3, 0, 0, -1, 0, 2, Integer.MIN_VALUE, 0, 0, Integer.MAX_VALUE};
    for (int i = 0; i < outside.length; i += 2) {
      due("11: pixel outside", x.pixel(outside[i], outside[i + 1]), 1);
    }
    x.clear(-5);
    for (int i = 0; i < 6; i++) {
      due("12: pixel behind clear", x.pixel(i % 3, i / 3), -5);
    }
    ListPainter y = done(2, 2, 10, 1, 11, 1, 8, U, 0, U, U, 9, 0, 3, 10, 2, 8, 0, U, U, U, 9, 0);
    due("11: pixel(1, 0)", y.pixel(1, 0), 1);
    due("11: pixel(0, 1)", y.pixel(0, 1), 2);
    due("13: sum() goes row by row", y.sum(), (((31 + 0) * 31 + 1) * 31 + 2) * 31 + 0);
    y.clear(Integer.MIN_VALUE);
    int s = 1;
    for (int i = 0; i < 4; i++) {
      s = 31 * s + Integer.MIN_VALUE;
    }
    due("13: sum() wraps", y.sum(), s);
    due("12: clear() leaves the LIST", y.state(0), 21);
    due("12: clear() leaves the place", y.state(1), 21);
  }

  private static void promise14() {
    ListPainter x = with(6, 5, 1, 12, 2 * U, 1, 2, 3 * U, 4, 5, 13, 1, 2, 3, 9, 10, 77, 11, 3, 8, 0, 0, 1, 1, 9, 0, 2);
    int[] told = {25, 0, -2, 0, BLACK, 0, 0, 0, 6, 5, U, 0, 0, U, 0, 0, 0, 0, 0};
    for (int what = 0; what <= 18; what++) {
      boolean always = what == 0 || what == 2;
      due("14: state(" + what + ") not looked over", x.state(what), always ? told[what] : NOT_TOLD);
    }
    x.verify();
    for (int what = 0; what <= 18; what++) {
      due("14: state(" + what + ") at first", x.state(what), told[what]);
    }
    x.render(7);
    int[] then = {25, 24, -2, 1, 77, 3, 1, 2, 4, 5, 2 * U, 1, 2, 3 * U, 4, 5, 4, 0, 0};
    for (int what = 0; what <= 18; what++) {
      due("14: state(" + what + ") then", x.state(what), then[what]);
    }
    x.one();
    int[] atEnd = {25, 25, -2, 0, BLACK, 0, 0, 0, 6, 5, U, 0, 0, U, 0, 0, 4, 0, 0};
    for (int what = 0; what <= 18; what++) {
      due("14: state(" + what + ") at the end", x.state(what), atEnd[what]);
    }
    int[] others = {-1, 19, Integer.MIN_VALUE, Integer.MAX_VALUE};
    for (int what : others) {
      due("14: state(" + what + ")", x.state(what), NOT_TOLD);
    }
  }

  private static void tables() {
    ListPainter x = done(4, 4, 12, 3, 0, 0, 3, 0, 0, 12, 32768, 0, 0, -32768, 10, -10);
    due("table: 1.5 is rounded to 2", x.state(10), 2);
    due("table: - 1.5 is rounded to - 1", x.state(13), -1);
    due("table: e", x.state(14), 0);
    due("table: f", x.state(15), 0);
    ListPainter order = done(4, 4, 12, 0, U, -U, 0, 7, 8, 12, 2 * U, 0, 0, 3 * U, U, 2 * U);
    int[] want = {0, 2 * U, -3 * U, 0, 7 - 2 * U, 8 + U};
    for (int i = 0; i < 6; i++) {
      due("table: the old one behind the new one, " + i, order.state(10 + i), want[i]);
    }
    int least = Integer.MIN_VALUE;
    ListPainter wraps = done(4, 4, 12, least, 0, least, U, least, 1, 12, least, least, 32768, U, U, 32768);
    due("table: a wraps", wraps.state(10), 0);
    due("table: b", wraps.state(11), least);
    due("table: c wraps", wraps.state(12), 1073741824);
    due("table: d", wraps.state(13), U);
    due("table: e wraps", wraps.state(14), -1073741824);
    due("table: f", wraps.state(15), 32769);
    ListPainter plain = done(4, 4, 12, 5, 5, 5, 5, 5, 5, 14);
    due("table: PLAIN's a", plain.state(10), U);
    due("table: PLAIN's f", plain.state(15), 0);
    shows("table: shifts", done(4, 2, 12, U, 0, 0, U, 2 * U, U, 8, 0, 0, U, U, 9, 0), "....", "..#.");
    shows("table: points go by the one that is there", done(4, 2, 8, 0, 0, U, U, 12, U, 0, 0, U, 2 * U, U, 9, 0),
        "#...", "....");
    shows("table: turns", done(4, 4, 12, 0, U, -U, 0, 4 * U, 0, 8, 0, 0, U, 3 * U, 9, 0), ".###", "....");
    int far = 67108863;
    shows("table: points are held", done(2, 2, 12, 0x7FFFFFFF, 0, 0, U, 0, 0, 4, -far, 0, 5, far, 0, 5, 0, 4 * U, 9, 0),
        "##", "##");
  }

  private static void outlines() {
    shows("an outline closes by itself", done(4, 3, 4, 0, 0, 5, 3 * U, 0, 5, 3 * U, 3 * U, 9, 0), "###.", ".##.", "..#.");
    shows("CLOSE goes to where it began and on from there",
        done(4, 2, 4, 0, 0, 5, U, 0, 5, U, U, 5, 0, U, 7, 5, 4 * U, 0, 5, 4 * U, 2 * U, 5, 0, 2 * U, 9, 1),
        ".###", "####");
    shows("CLOSE goes to the point as it was sent",
        done(3, 2, 4, 0, 0, 5, U, 0, 5, U, 2 * U, 12, U, 0, 0, U, U, 0, 5, -U, 2 * U, 7, 9, 0), "#..", "#..");
    shows("turns of the same sense add", done(3, 1, 8, 0, 0, 2 * U, U, 8, U, 0, 2 * U, U, 9, 0), "###");
    shows("an odd count is wanted", done(3, 1, 8, 0, 0, 2 * U, U, 8, U, 0, 2 * U, U, 9, 1), "#.#");
    shows("turns of both senses cancel", done(3, 1, 8, 0, 0, 2 * U, U, 8, 3 * U, 0, -2 * U, U, 9, 0), "#.#");
    shows("the path stays behind FILL", done(3, 1, 8, 0, 0, U, U, 9, 0, 8, 2 * U, 0, U, U, 10, -1, 9, 0), "#.#");
    shows("PATH empties it", done(3, 1, 8, 0, 0, U, U, 3, 8, 2 * U, 0, U, U, 9, 0), "..#");
    int half = 32768;
    shows("a middle on the left and upper edge is in, on the others out",
        done(3, 3, 8, half, half, U, U, 9, 0), "#..", "...", "...");
    shows("just past the middle", done(2, 2, 8, half + 1, half + 1, U, U, 9, 0), "..", ".#");
    due("a path of points only paints nothing", done(3, 3, 4, 0, 0, 4, U, U, 9, 0).state(17), 0);
  }

  /** A curve from (0, 0) by (8 U, 0) to (8 U, 8 U): by k, x is U k (16 - k) / 8 and y is U k k / 8. */
  private static void curves() {
    ListPainter x = done(8, 8, 4, 0, 0, 6, 8 * U, 0, 8 * U, 8 * U, 5, 0, 8 * U, 9, 0);
    due("curve: 8 LINES", x.state(16), 9);
    for (int py = 0; py < 8; py++) {
      for (int px = 0; px < 8; px++) {
        due("curve: pixel " + px + " " + py, x.pixel(px, py), leftOfCurve(px + 0.5, py + 0.5) ? BLACK : 0);
      }
    }
    ListPainter told = done(4, 2, 4, 0, 0, 12, U, 0, 0, U, 2 * U, 0, 6, 0, U, 0, 2 * U, 5, 2 * U, 2 * U, 5, 2 * U, 0, 9, 0);
    shows("curve: from the last point as it was told", told, "..##", "..##");
    // At k = 1 comes 31 / 64, which is 0; if it were 1, half a pixel, the line would pass right of the first middle.
    shows("curve: less than a half is cut off",
        done(1, 2, 12, 0x7FFFFFFF, 0, 0, U, 26214, 0, 4, 0, 0, 6, 0, 4 * U, 31, 8 * U, 5, 31, 0, 9, 0), "#", ".");
    // At k = 4 comes - 0.5, which half up is 0; a half pixel further left, or less, would reach the first column.
    shows("curve: rounded half up, and before the TABLE comes",
        done(2, 4, 12, 0x7FFFFFFF, 0, 0, 0x7FFFFFFF, 45875, 16384, 4, 0, 0, 6, -1, 4, 0, 8, 5, 2, 8, 5, 2, 0, 9, 0),
        ".#", ".#", ".#", ".#");
  }

  private static boolean leftOfCurve(double mx, double my) {
    for (int k = 1; k <= 8; k++) {
      double y0 = (k - 1) * (k - 1) / 8.0, y1 = k * k / 8.0;
      if (y0 <= my && my < y1) {
        double x0 = (k - 1) * (17 - k) / 8.0, x1 = k * (16 - k) / 8.0;
        return mx < x0 + (my - y0) * (x1 - x0) / (y1 - y0);
      }
    }
    return false;
  }

  private static void clips() {
    int[] all = {8, 0, 0, 4 * U, 4 * U, 9, 0};
    shows("CLIP", done(4, 4, join(new int[] {13, 1, 2, 2, 1}, all)), "....", "....", ".##.", "....");
    shows("CLIPS nest", done(4, 4, join(new int[] {13, -5, -5, 7, 8, 13, 1, 0, 9, 9}, all)), ".#..", ".#..", ".#..", "....");
    shows("SAVE and BRING BACK", done(4, 1, join(new int[] {1, 13, 0, 0, 0, 0, 2}, all)), "####");
    ListPainter x = done(4, 4, 13, 2, 2, 2, 2, 13, 0, 0, 2, 4);
    for (int what = 6; what <= 9; what++) {
      due("CLIP of nothing: state(" + what + ")", x.state(what), 0);
    }
    ListPainter thin = done(4, 4, 13, 1, 1, 2, 0);
    for (int what = 6; what <= 9; what++) {
      due("CLIP without height: state(" + what + ")", thin.state(what), 0);
    }
    ListPainter nested = done(9, 9, 1, 13, 1, 1, 7, 7, 1, 13, 2, 2, 2, 2, 10, 1, 2, 10, 2, 2);
    nested.render(7);
    due("BRING BACK's CLIP", nested.state(8), 8);
    due("COLOUR behind it", nested.state(4), 2);
  }

  private static int painted(int under, int colour, int way) {
    ListPainter x = ready(1, 1, 11, way, 10, colour, 8, 0, 0, U, U, 9, 0);
    x.clear(under);
    x.render(4);
    return x.pixel(0, 0);
  }

  private static void ways() {
    int under = 0x40C81E05;
    int colour = 0x80641EFF;
    // Red by hand: (100 * 128 + 200 * 127 + 127) / 255 = 150; COVER (255 * 128 + 64 * 127 + 127) / 255 = 160.
    due("WAY 0", painted(under, colour, 0), 0xA0961E82);
    due("WAY 1", painted(under, colour, 1), colour);
    // Of 100 and 200 comes 78, of 30 and 30 comes 4, of 255 and 5 comes 5.
    due("WAY 2", painted(under, colour, 2), 0xA08B1105);
    // 50, 15, 128 are added.
    due("WAY 3", painted(under, colour, 3), 0xC0FA2D85);
    // 100, 0, 250 are the differences.
    due("WAY 4", painted(under, colour, 4), 0xA0960F80);
    due("127 of 255 is cut off", painted(0, 0x7F010101, 3), 0x7F000000);
    due("128 of 255 is one", painted(0, 0x80010101, 3), 0x80010101);
    due("WAY 3 ends at 255", painted(0xC8C8C8C8, 0xFFFFFFFF, 3), 0xFFFFFFFF);
    due("WAY 0 without COVER", painted(under, 0x00FFFFFF, 0), under);
    due("WAY 0 with all COVER", painted(under, 0xFF010203, 0), 0xFF010203);
    ListPainter none = ready(1, 1, 10, 0, 8, 0, 0, U, U, 9, 0);
    none.render(9);
    due("a pixel painted without COVER counts", none.state(18), 1);
  }

  public static void main(String[] args) {
    promise1();
    promise2And3();
    promise4();
    promise5Words();
    promise5Order();
    promise5State();
    promise6();
    promise7();
    promise8To10();
    promise11To13();
    promise14();
    tables();
    outlines();
    curves();
    clips();
    ways();
    System.out.println(wrong == 0 ? "all answers are as due" : wrong + " answers are not as due");
    if (wrong != 0) {
      System.exit(1);
    }
  }
}
