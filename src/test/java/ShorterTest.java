import java.util.Arrays;

/** SHORTER, rule by rule: what goes, and what just stays. */
public final class ShorterTest {
  private static final int U = 65536;
  private static int wrong = 0;

  private static int[] shorterOf(int w, int h, int[] words) {
    ListPainter x = new ListPainter(w, h);
    for (int word : words) {
      x.feed(word);
    }
    int fault = x.verify();
    if (fault != 0) {
      wrong++;
      System.out.println("FAULT " + fault + " at " + x.state(2) + " of " + Arrays.toString(words));
      return new int[0];
    }
    int[] made = new int[x.optimise()];
    for (int i = 0; i < made.length; i++) {
      made[i] = x.shorter(i);
    }
    return made;
  }

  private static void due(String what, int[] words, int... want) {
    int[] got = shorterOf(8, 8, words);
    if (!Arrays.equals(got, want)) {
      wrong++;
      System.out.println(what + ": " + Arrays.toString(words) + " became " + Arrays.toString(got) + ", due is "
          + Arrays.toString(want));
    }
  }

  private static void stays(String what, int... words) {
    due(what, words, words);
  }

  private static int[] of(int... words) {
    return words;
  }

  private static void ruleA() {
    due("A nothing is painted", of(1, 10, 5, 8, 0, 0, U, U, 2, 14));
    due("A an empty list", of());
    due("A behind the last FILL", of(8, 0, 0, U, U, 9, 0, 10, 5, 3, 4, 0, 0, 1, 11, 2, 2, 14), 8, 0, 0, U, U, 9, 0);
    due("A BRING BACK of a SAVE before it stays", of(10, 5, 1, 10, 6, 8, 0, 0, U, U, 9, 0, 10, 7, 2, 1, 2, 11, 1),
        10, 5, 1, 10, 6, 8, 0, 0, U, U, 9, 0, 2);
    due("A two BRING BACKS stay, two between go", of(1, 1, 8, 0, 0, U, U, 9, 0, 2, 1, 1, 2, 2, 2, 1, 2),
        1, 1, 8, 0, 0, U, U, 9, 0, 2, 2);
  }

  private static void ruleB() {
    int h = U / 2;
    stays("B a FILL that paints", 8, 0, 0, U, U, 9, 0);
    due("B no path", of(8, 0, 0, U, U, 9, 0, 3, 9, 1), 8, 0, 0, U, U, 9, 0);
    due("B above all", of(8, 0, -U, U, U + h, 9, 0));
    stays("B the least counts", 8, 0, h, U, 1, 9, 0);
    due("B the greatest does not", of(8, 0, h, U, -1, 9, 0));
    due("B below all", of(8, 0, 8 * U - h + 1, U, U, 9, 0));
    stays("B in the last row", 8, 0, 8 * U - h, U, U, 9, 0);
    due("B right of all", of(8, 8 * U - h + 1, 0, U, U, 9, 0));
    stays("B at the last column's middle", 8, 8 * U - h, 0, U, U, 9, 0);
    stays("B left of all stays", 8, -9 * U, 0, U, U, 9, 0);
    due("B between two middles", of(8, 0, h + 1, U, U - 1, 9, 0));
    due("B an empty CLIP", of(13, 3, 3, 0, 5, 8, 0, 0, U, U, 9, 0));
    due("B the CLIP is above", of(13, 0, 0, 8, 2, 8, 0, 2 * U, U, U, 9, 0));
    stays("B the CLIP goes farther", 13, 0, 0, 8, 3, 8, 0, 2 * U, U, U, 9, 0);
    due("B the CLIP is left", of(13, 0, 0, 2, 8, 8, 2 * U, 0, U, U, 9, 0));
    stays("B a BEGIN is a point", 4, 0, 0, 4, 0, 3 * U, 9, 0);
    stays("B a line without width is not looked at", 4, 0, 0, 5, 0, 3 * U, 9, 0);
    due("B points go by the TABLE", of(12, U, 0, 0, U, 0, 9 * U, 8, 0, 0, U, U, 9, 0));
    due("B only that FILL", of(8, 0, -9 * U, U, U, 9, 0, 8, 0, 0, U, U, 9, 0),
        8, 0, -9 * U, U, U, 8, 0, 0, U, U, 9, 0);
  }

  private static void ruleCAndD() {
    int[] box = {8, 0, 0, U, U, 9, 0};
    due("C before PATH", of(4, 1, 1, 5, 2, 2, 6, 1, 1, 2, 2, 7, 8, 1, 1, 1, 1, 3, 8, 0, 0, U, U, 9, 0), box);
    stays("C a FILL between", 8, 0, 0, U, U, 9, 0, 3, 8, U, U, U, U, 9, 0);
    due("C behind that FILL", of(8, 0, 0, U, U, 9, 0, 7, 10, 5, 5, 1, 1, 3, 8, U, U, U, U, 9, 0),
        8, 0, 0, U, U, 9, 0, 10, 5, 3, 8, U, U, U, U, 9, 0);
    due("D PATH of nothing", of(3, 3, 8, 0, 0, U, U, 9, 0), box);
    due("D two PATHS", of(8, 0, 0, U, U, 9, 0, 3, 3, 8, U, U, U, U, 9, 0), 8, 0, 0, U, U, 9, 0, 3, 8, U, U, U, U, 9, 0);
    due("B, C and D", of(8, 0, 0, U, U, 9, 0, 3, 8, 0, -5 * U, U, U, 9, 0, 3, 8, U, U, U, U, 9, 0),
        8, 0, 0, U, U, 9, 0, 3, 8, U, U, U, U, 9, 0);
    stays("D something is begun", 8, 0, 0, U, U, 9, 0, 3, 8, 0, U, U, U, 9, 0);
  }

  private static void ruleE() {
    int black = 0xFF000000;
    int[] box = {8, 0, 0, U, U, 9, 0};
    due("E what there is at first", of(10, black, 11, 0, 8, 0, 0, U, U, 9, 0), box);
    due("E another one comes", of(10, 5, 10, 6, 8, 0, 0, U, U, 9, 0), 10, 6, 8, 0, 0, U, U, 9, 0);
    due("E the same one comes", of(10, 5, 10, 5, 8, 0, 0, U, U, 9, 0), 10, 5, 8, 0, 0, U, U, 9, 0);
    due("E what there was comes again", of(10, 5, 10, black, 8, 0, 0, U, U, 9, 0), box);
    due("E another WAY comes", of(11, 1, 10, 5, 11, 2, 8, 0, 0, U, U, 9, 0), 10, 5, 11, 2, 8, 0, 0, U, U, 9, 0);
    stays("E a COLOUR is no other WAY", 10, 5, 11, 2, 8, 0, 0, U, U, 9, 0);
    stays("E a FILL between", 10, 5, 8, 0, 0, U, U, 9, 0, 10, 6, 9, 0);
    stays("E a SAVE between", 10, 5, 1, 10, 6, 8, 0, 0, U, U, 9, 0, 2, 9, 0);
    due("E a BRING BACK comes", of(1, 10, 6, 8, 0, 0, U, U, 9, 0, 10, 7, 11, 3, 2, 9, 0),
        1, 10, 6, 8, 0, 0, U, U, 9, 0, 2, 9, 0);
    due("E what BRING BACK brought", of(10, 5, 1, 10, 6, 8, 0, 0, U, U, 9, 0, 2, 10, 5, 9, 0),
        10, 5, 1, 10, 6, 8, 0, 0, U, U, 9, 0, 2, 9, 0);
  }

  private static void ruleF() {
    due("F the SHEET", of(13, 0, 0, 8, 8, 8, 0, 0, U, U, 9, 0), 8, 0, 0, U, U, 9, 0);
    due("F more than the SHEET", of(13, -5, -1, 100, 9, 8, 0, 0, U, U, 9, 0), 8, 0, 0, U, U, 9, 0);
    due("F the same again", of(13, 0, 0, 2, 2, 13, 0, 0, 2, 2, 8, 0, 0, U, U, 9, 0),
        13, 0, 0, 2, 2, 8, 0, 0, U, U, 9, 0);
    stays("F one that is narrower", 13, 0, 0, 3, 3, 13, 0, 0, 2, 2, 8, 0, 0, U, U, 9, 0);
    due("F behind BRING BACK", of(1, 13, 0, 0, 2, 2, 8, 0, 0, U, U, 9, 0, 2, 13, 0, 0, 8, 8, 9, 0),
        1, 13, 0, 0, 2, 2, 8, 0, 0, U, U, 9, 0, 2, 9, 0);
  }

  private static void ruleG() {
    int[] box = {8, 0, 0, U, U, 9, 0};
    due("G PLAIN of PLAIN", of(14, 8, 0, 0, U, U, 9, 0), box);
    due("G the TABLE at first", of(12, U, 0, 0, U, 0, 0, 8, 0, 0, U, U, 9, 0), box);
    stays("G PLAIN of another", 12, 2 * U, 0, 0, U, 0, 0, 14, 8, 0, 0, U, U, 9, 0);
    stays("G one that rounds away what it does not leave", 12, U, 1, 0, U, 0, 0, 8, 0, 0, U, U, 9, 0);
    due("G behind nothing, any one leaves all",
        of(12, 0, 0, 0, 0, 0, 0, 12, 5, 6, 7, 8, 9, 9, 4, 0, 0, 14, 5, 0, 5 * U, 5, 5 * U, 5 * U, 9, 0),
        12, 0, 0, 0, 0, 0, 0, 4, 0, 0, 14, 5, 0, 5 * U, 5, 5 * U, 5 * U, 9, 0);
    due("G two become one, the first behind the second",
        of(12, 0, U, -U, 0, 7 * U, 8 * U, 12, 2 * U, 0, 0, 3 * U, U, 2 * U, 8, -4 * U, 0, U, U, 9, 0),
        12, 0, 2 * U, -3 * U, 0, 5 * U, 9 * U, 8, -4 * U, 0, U, U, 9, 0);
    stays("G bits behind the point", 12, U, 0, 0, U, 1, 0, 12, 2 * U, 0, 0, U, 0, 0, 8, 0, 0, U, U, 9, 0);
    stays("G bits behind the second's point", 12, U, 0, 0, 2 * U, 0, 0, 12, U, 0, 0, U, 0, 32768, 8, 0, 0, U, U, 9, 0);
    stays("G not right behind", 12, U, 0, 0, U, U, 0, 10, 5, 12, U, 0, 0, U, 0, U, 8, 0, 0, U, U, 9, 0);
    int t = 30000 * U;
    stays("G more than 32 bits", 12, U, 0, 0, U, t, 0, 12, U, 0, 0, U, t, 0, 8, -67108863, 0, U, U, 9, 0);
    due("G the most of 32 bits", of(12, U, 0, 0, U, -16384 * U, 0, 12, U, 0, 0, U, -16384 * U, 0, 8, 0, 0, U, U, 9, 0),
        12, U, 0, 0, U, Integer.MIN_VALUE, 0, 8, 0, 0, U, U, 9, 0);
    int m = Integer.MIN_VALUE;
    stays("G sums of 64 bits", 12, m, 0, m, 0, 0, 0, 12, m, m, 0, 0, 0, 0, 4, 0, 0, 14, 5, 0, 5 * U, 5, U, U, 9, 0);
    due("G three become one in two rounds",
        of(12, U, 0, 0, U, U, 0, 12, U, 0, 0, U, 0, U, 12, U, 0, 0, U, U, U, 8, 0, 0, U, U, 9, 0),
        12, U, 0, 0, U, 2 * U, 2 * U, 8, 0, 0, U, U, 9, 0);
    due("G one there, one back", of(12, U, 0, 0, U, U, 0, 12, U, 0, 0, U, -U, 0, 8, 0, 0, U, U, 9, 0), box);
    due("G what comes of two is not looked at again in it",
        of(12, U, 0, 0, U, t / 3 * 2, 0, 12, U, 0, 0, U, t / 3, 0, 12, U, 0, 0, U, -t / 3, 0, 12, U, 0, 0, U, t, 0,
            4, 0, 0, 14, 5, 0, 5 * U, 5, U, U, 9, 0),
        12, U, 0, 0, U, t, 0, 12, U, 0, 0, U, t / 3 * 2, 0, 4, 0, 0, 14, 5, 0, 5 * U, 5, U, U, 9, 0);
  }

  /** Two TABLES that either stay or become the one of these six numbers. */
  private static void pair(String what, int[] first, int[] second, int... one) {
    int[] rest = {4, 0, 0, 14, 5, 0, 5 * U, 5, U, U, 9, 0};
    int[] both = join(new int[] {12}, first, new int[] {12}, second, rest);
    due("G " + what, both, one.length == 0 ? both : join(new int[] {12}, one, rest));
  }

  private static int[] join(int[]... parts) {
    return Arrays.stream(parts).flatMapToInt(Arrays::stream).toArray();
  }

  private static void bitsOfPairs() {
    int h = 16384 * U, m = Integer.MIN_VALUE, g = 32767 * U;
    pair("a has more than 32 bits", of(h, 0, h, 0, 0, 0), of(U, U, 0, 0, 0, 0));
    pair("a has not, with less", of(h, 0, h, 0, 0, 0), of(U, -U, 0, 0, 0, 0), 0, 0, 0, 0, 0, 0);
    pair("a is the least", of(-h, 0, -h, 0, 0, 0), of(U, U, 0, 0, 0, 0), m, 0, 0, 0, 0, 0);
    pair("a is the greatest", of(g, 0, 0, 0, 0, 0), of(U, 0, 0, 0, 0, 0), g, 0, 0, 0, 0, 0);
    pair("b has more than 32 bits", of(0, h, 0, h, 0, 0), of(U, U, 0, 0, 0, 0));
    pair("b has not, with less", of(0, h, 0, h, 0, 0), of(U, -U, 0, 0, 0, 0), 0, 0, 0, 0, 0, 0);
    pair("c has more than 32 bits", of(h, 0, h, 0, 0, 0), of(0, 0, U, U, 0, 0));
    pair("c has not, with less", of(h, 0, h, 0, 0, 0), of(0, 0, U, -U, 0, 0), 0, 0, 0, 0, 0, 0);
    pair("d has more than 32 bits", of(0, h, 0, h, 0, 0), of(0, 0, U, U, 0, 0));
    pair("d has not, with less", of(0, h, 0, h, 0, 0), of(0, 0, -U, U, 0, 0), 0, 0, 0, 0, 0, 0);
    pair("e has more than 32 bits", of(h, 0, h, 0, 0, 0), of(0, 0, 0, 0, U, U));
    pair("e has not, with less", of(h, 0, h, 0, 0, 0), of(0, 0, 0, 0, U, -U), 0, 0, 0, 0, 0, 0);
    pair("e has more by what is added", of(U, 0, 0, 0, h, 0), of(0, 0, 0, 0, h, 0));
    pair("e is the greatest", of(U, 0, 0, 0, h, 0), of(0, 0, 0, 0, h - U, 0), 0, 0, 0, 0, g, 0);
    pair("f has more than 32 bits", of(0, h, 0, h, 0, 0), of(0, 0, 0, 0, U, U));
    pair("f has not, with less", of(0, h, 0, h, 0, 0), of(0, 0, 0, 0, U, -U), 0, 0, 0, 0, 0, 0);
    pair("f has more by what is added", of(0, 0, 0, U, 0, h), of(0, 0, 0, 0, 0, h));
    pair("f is the least", of(0, 0, 0, U, 0, -h), of(0, 0, 0, 0, 0, -h), 0, 0, 0, 0, 0, m);
    pair("b and d of great ones", of(0, 300 * U, 0, -U, 0, 0), of(200 * U, 20000 * U, 0, 0, 0, 0));
    pair("only the first one is whole", of(2 * U, 0, 0, U, 0, 0), of(U, 0, 0, U, 0, 1));
  }

  private static void ruleHAndI() {
    int[] box = {8, 0, 0, U, U, 9, 0};
    due("H a BRING BACK comes", of(1, 10, 6, 8, 0, 0, U, U, 9, 0, 12, 5, 0, 0, 5, 0, 0, 13, 1, 1, 1, 1, 14, 2, 9, 0),
        1, 10, 6, 8, 0, 0, U, U, 9, 0, 2, 9, 0);
    due("H a PATH between", of(1, 10, 6, 8, 0, 0, U, U, 9, 0, 13, 1, 1, 1, 1, 3, 2, 8, 0, 0, U, U, 9, 0),
        1, 10, 6, 8, 0, 0, U, U, 9, 0, 3, 2, 8, 0, 0, U, U, 9, 0);
    stays("H a SAVE between", 1, 13, 0, 0, 3, 3, 1, 10, 6, 8, 0, 0, U, U, 9, 0, 2, 2, 9, 0);
    stays("H a CLIP is wanted by COMMANDS 4 to 8 too", 1, 13, 0, 0, 3, 3, 8, 0, 0, U, U, 2, 9, 0);
    due("I", of(1, 2, 8, 0, 0, U, U, 9, 0), box);
    due("I in each other", of(1, 1, 1, 2, 2, 1, 2, 2, 8, 0, 0, U, U, 9, 0), box);
    due("E, H and I", of(10, 5, 1, 10, 6, 13, 1, 1, 1, 1, 2, 10, 7, 8, 0, 0, U, U, 9, 0), 10, 7, 8, 0, 0, U, U, 9, 0);
    stays("I a path between", 1, 8, 0, 0, U, U, 2, 9, 0);
  }

  public static void main(String[] args) {
    ruleA();
    ruleB();
    ruleCAndD();
    ruleE();
    ruleF();
    ruleG();
    bitsOfPairs();
    ruleHAndI();
    System.out.println(wrong == 0 ? "all answers are as due" : wrong + " answers are not as due");
    if (wrong != 0) {
      System.exit(1);
    }
  }
}
