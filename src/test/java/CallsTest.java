import java.util.ArrayList;
import java.util.Arrays;
import java.util.List;

/** Calls in any order, refused ones among them, against a second reading of the promises. */
public final class CallsTest {
  private static final int NOT_TOLD = -2000000000;
  private static final int MAX_CALLS = 512;
  private static final int MAX_WORDS = 1500;
  private static int wrong = 0;

  /** What an object has to answer. */
  private static final class Due {
    final int w, h;
    final int[] pixels;
    final List<Integer> words = new ArrayList<>();
    boolean looked = false;
    int faultPlace = -2;
    List<int[]> commands;
    int next;
    Model now;
    int[] shorter = null;

    Due(int w, int h) {
      this.w = Math.min(32, Math.max(1, w));
      this.h = Math.min(32, Math.max(1, h));
      pixels = new int[this.w * this.h];
    }

    int feed(int... more) {
      if (words.size() + more.length > MAX_WORDS) {
        return -1;
      }
      Arrays.stream(more).forEach(words::add);
      looked = false;
      shorter = null;
      return words.size();
    }

    int reset() {
      int had = words.size();
      words.clear();
      looked = false;
      shorter = null;
      return had;
    }

    int[] list() {
      return words.stream().mapToInt(Integer::intValue).toArray();
    }

    int verify() {
      int[] fault = Model.lookedOver(list());
      looked = fault[0] == 0;
      faultPlace = fault[1];
      if (looked) {
        commands = Model.commands(list());
        next = 0;
        now = new Model(w, h, pixels);
      }
      return fault[0];
    }

    int one() {
      if (!looked) {
        return -2;
      }
      if (next == commands.size()) {
        return 1;
      }
      now.does(commands.get(next++));
      return 0;
    }

    int render(int n) {
      if (!looked) {
        return -2;
      }
      if (n < 0 || n > 100000) {
        return -1;
      }
      Model before = now;
      now = new Model(w, h, pixels);
      now.fills = before.fills;
      now.painted = before.painted;
      next = 0;
      for (int i = 0; i < n && one() == 0; i++) { }
      return next == commands.size() ? 0 : 1;
    }

    int optimise() {
      if (!looked) {
        return -2;
      }
      shorter = Model.shorterOf(list(), w, h);
      return shorter.length;
    }

    int shorter(int i) {
      return shorter == null || i < 0 || i >= shorter.length ? NOT_TOLD : shorter[i];
    }

    int renderShorter(int n) {
      if (shorter == null) {
        return -2;
      }
      if (n < 0 || n > 100000) {
        return -1;
      }
      List<int[]> all = Model.commands(shorter);
      Model own = new Model(w, h, pixels);
      for (int[] c : all.subList(0, Math.min(n, all.size()))) {
        own.does(c);
      }
      return n < all.size() ? 1 : 0;
    }

    int pixel(int x, int y) {
      return x < 0 || y < 0 || x >= w || y >= h ? 1 : pixels[y * w + x];
    }

    int place() {
      return commands.subList(0, next).stream().mapToInt(c -> c.length).sum();
    }

    int state(int what) {
      if (what == 0 || what == 2) {
        return what == 0 ? words.size() : faultPlace;
      }
      if (!looked || what < 0 || what > 18) {
        return NOT_TOLD;
      }
      Model m = now;
      int[] told = {0, place(), 0, m.saved.size(), m.colour, m.way, m.clip[0], m.clip[1], m.clip[2], m.clip[3], m.table[0],
          m.table[1], m.table[2], m.table[3], m.table[4], m.table[5], m.lines, m.fills, m.painted};
      return told[what];
    }
  }

  private static String run = "";

  private static void due(String call, long got, long want) {
    if (got != want) {
      wrong++;
      if (wrong < 40) {
        System.out.println(run + ": " + call + " answered " + got + ", due is " + want);
      }
    }
  }

  private static int side(Maker by, int length) {
    return by.random.nextInt(6) == 0 ? by.pick(-1, length, Integer.MIN_VALUE, Integer.MAX_VALUE) : by.random.nextInt(length);
  }

  /** One call of any kind on both. Words come from a made list, so that most lists are right in the end. */
  private static void call(Maker by, int[] made, ListPainter x, Due d) {
    int at = d.words.size();
    int n = by.pick(0, 1, 2, 3, 5, 10, 40, 100, 100000, -1, 100001, Integer.MIN_VALUE, Integer.MAX_VALUE);
    int i = by.pick(-1, 0, 1, 2, by.random.nextInt(60), by.random.nextInt(1600), d.shorter == null ? 0 : d.shorter.length,
        Integer.MIN_VALUE, Integer.MAX_VALUE);
    int what = by.pick(by.random.nextInt(19), by.random.nextInt(23) - 2, Integer.MIN_VALUE, Integer.MAX_VALUE);
    switch (by.random.nextInt(40)) {
      case 0 -> due("reset()", x.reset(), d.reset());
      case 1, 2, 3 -> due("verify()", x.verify(), d.verify());
      case 4, 5, 6, 7, 8, 9 -> due("one()", x.one(), d.one());
      case 10, 11, 12 -> due("render(" + n + ")", x.render(n), d.render(n));
      case 13, 14 -> due("optimise()", x.optimise(), d.optimise());
      case 15, 16, 17 -> due("shorter(" + i + ")", x.shorter(i), d.shorter(i));
      case 18, 19 -> due("renderShorter(" + n + ")", x.renderShorter(n), d.renderShorter(n));
      case 20, 21 -> {
        int px = side(by, d.w), py = side(by, d.h);
        due("pixel(" + px + ", " + py + ")", x.pixel(px, py), d.pixel(px, py));
      }
      case 22 -> {
        x.clear(n * i);
        Arrays.fill(d.pixels, n * i);
      }
      case 23, 24, 25 -> due("sum()", x.sum(), Arrays.hashCode(d.pixels));
      case 26, 27, 28, 29, 30, 31, 32 -> due("state(" + what + ")", x.state(what), d.state(what));
      default -> {
        if (at + 5 <= made.length) {
          int[] m = Arrays.copyOfRange(made, at, at + 5);
          due("five()", x.five(m[0], m[1], m[2], m[3], m[4]), d.feed(m));
        } else if (at < made.length) {
          due("feed()", x.feed(made[at]), d.feed(made[at]));
        } else if (by.random.nextInt(20) == 0) {
          due("feed(3)", x.feed(3), d.feed(3));
        }
      }
    }
  }

  private static void sameCalls(int seed) {
    run = "run " + seed;
    Maker by = new Maker(-1 - seed);
    int[] made = by.list(by.random.nextInt(40));
    made = by.random.nextInt(8) == 0 ? by.spoilt(made) : made;
    int w = by.random.nextInt(13) - 1, h = by.random.nextInt(13) - 1;
    ListPainter x = new ListPainter(w, h);
    Due d = new Due(w, h);
    int calls = 0;
    if (seed % 16 == 0) {
      // A full list but for a few words, of PATHS, which is right at each of its lengths.
      for (; d.words.size() < 1480; calls++) {
        due("five()", x.five(3, 3, 3, 3, 3), d.feed(3, 3, 3, 3, 3));
      }
      made = new int[MAX_WORDS + 9];
      Arrays.fill(made, 3);
    }
    for (; calls < MAX_CALLS && wrong < 40; calls++) {
      call(by, made, x, d);
    }
  }

  public static void main(String[] args) {
    int runs = args.length > 0 ? Integer.parseInt(args[0]) : 600;
    for (int seed = 0; seed < runs && wrong < 40; seed++) {
      sameCalls(seed);
    }
    System.out.println(wrong == 0 ? "all answers are as due" : wrong + " answers are not as due");
    if (wrong != 0) {
      System.exit(1);
    }
  }
}
