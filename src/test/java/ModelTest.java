import java.util.Arrays;

/** Lists made by a fixed rule, against a slow and plain second reading of the document. */
public final class ModelTest {
  private static int wrong = 0;

  private static void due(String what, long got, long want) {
    if (got != want) {
      wrong++;
      if (wrong < 40) {
        System.out.println(what + " answered " + got + ", due is " + want);
      }
    }
  }

  private static void feedAll(ListPainter x, int[] words) {
    int i = 0;
    for (; i + 5 <= words.length; i += 5) {
      x.five(words[i], words[i + 1], words[i + 2], words[i + 3], words[i + 4]);
    }
    for (; i < words.length; i++) {
      due("feed", x.feed(words[i]), i + 1);
    }
  }

  private static void sameState(String run, ListPainter x, Model m, int place) {
    int[] want = {x.state(0), place, -2, m.saved.size(), m.colour, m.way, m.clip[0], m.clip[1], m.clip[2], m.clip[3],
        m.table[0], m.table[1], m.table[2], m.table[3], m.table[4], m.table[5], m.lines, m.fills, m.painted};
    for (int what = 0; what < want.length; what++) {
      due(run + " state(" + what + ")", x.state(what), want[what]);
    }
  }

  private static void samePixels(String run, ListPainter x, Model m) {
    for (int i = 0; i < m.pixels.length; i++) {
      due(run + " pixel " + i, x.pixel(i % m.w, i / m.w), m.pixels[i]);
    }
    due(run + " sum", x.sum(), Arrays.hashCode(m.pixels));
  }

  private static void sameFault(String run, int[] words) {
    ListPainter x = new ListPainter(3, 3);
    feedAll(x, words);
    int[] fault = Model.lookedOver(words);
    due(run + " verify()", x.verify(), fault[0]);
    due(run + " its place", x.state(2), fault[1]);
  }

  private static void sameRun(String run, int[] words, int w, int h, int under) {
    ListPainter x = new ListPainter(w, h);
    feedAll(x, words);
    due(run + " verify()", x.verify(), Model.lookedOver(words)[0]);
    int[] first = new int[w * h];
    Arrays.fill(first, under);
    x.clear(under);
    Model m = new Model(w, h, first.clone());
    int place = 0, done = 0;
    for (int[] c : Model.commands(words)) {
      done++;
      due(run + " one()", x.one(), 0);
      m.does(c);
      place += c.length;
      if (done % 5 == 0) {
        sameState(run + " place " + place, x, m, place);
      }
    }
    due(run + " one() at the end", x.one(), 1);
    sameState(run + " end", x, m, words.length);
    samePixels(run, x, m);
    int[] shorter = Model.shorterOf(words, w, h);
    due(run + " optimise()", x.optimise(), shorter.length);
    for (int i = 0; i < shorter.length; i++) {
      due(run + " shorter(" + i + ")", x.shorter(i), shorter[i]);
    }
    due(run + " shorter's FAULT", Model.lookedOver(shorter)[0], 0);
    x.clear(under);
    due(run + " renderShorter()", x.renderShorter(1500), 0);
    samePixels(run + " by SHORTER", x, m);
    sameState(run + " behind SHORTER", x, m, words.length);
  }

  public static void main(String[] args) {
    int runs = args.length > 0 ? Integer.parseInt(args[0]) : 6000;
    for (int seed = 0; seed < runs && wrong < 40; seed++) {
      Maker maker = new Maker(seed);
      int[] words = maker.list(maker.random.nextInt(60));
      if (words.length > 400) {
        continue;
      }
      int w = 1 + maker.random.nextInt(12), h = 1 + maker.random.nextInt(12);
      sameRun("run " + seed, words, seed % 50 == 0 ? 32 : w, seed % 50 == 0 ? 32 : h, maker.random.nextInt());
      sameFault("spoilt run " + seed, maker.spoilt(words));
    }
    System.out.println(wrong == 0 ? "all answers are as due" : wrong + " answers are not as due");
    if (wrong != 0) {
      System.exit(1);
    }
  }
}
