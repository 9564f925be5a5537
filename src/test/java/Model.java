import java.math.BigInteger;
import java.util.ArrayList;
import java.util.Arrays;
import java.util.List;

/** A slow and plain second reading of the document: what there is before or behind some COMMANDS of a list. */
final class Model {
  private static final int U = 65536;
  private static final int BLACK = 0xFF000000;
  private static final int[] LENGTHS = {0, 1, 1, 1, 3, 3, 5, 1, 5, 2, 2, 2, 7, 5, 1};

  record Point(long x, long y) { }

  final int w, h;
  int[] pixels;
  int[] table = {U, 0, 0, U, 0, 0};
  int[] clip;
  int colour = BLACK, way = 0, lines = 0, fills = 0, painted = 0;
  final List<int[][]> saved = new ArrayList<>();
  List<List<Point>> outlines = new ArrayList<>();
  Point told, toldFirst;

  Model(int w, int h, int[] pixels) {
    this.w = w;
    this.h = h;
    this.pixels = pixels;
    clip = new int[] {0, 0, w, h};
  }

  void does(int[] c) {
    switch (c[0]) {
      case 1 -> saved.add(new int[][] {table.clone(), clip.clone(), {colour, way}});
      case 2 -> {
        int[][] s = saved.remove(saved.size() - 1);
        table = s[0];
        clip = s[1];
        colour = s[2][0];
        way = s[2][1];
      }
      case 3 -> {
        outlines = new ArrayList<>();
        lines = 0;
      }
      case 4 -> begin(c[1], c[2]);
      case 5 -> line(c[1], c[2]);
      case 6 -> curve(c);
      case 7 -> close();
      case 8 -> {
        begin(c[1], c[2]);
        line((long) c[1] + c[3], c[2]);
        line((long) c[1] + c[3], (long) c[2] + c[4]);
        line(c[1], (long) c[2] + c[4]);
        close();
      }
      case 9 -> fill(c[1]);
      case 10 -> colour = c[1];
      case 11 -> way = c[1];
      case 12 -> table = behind(table, Arrays.copyOfRange(c, 1, 7));
      case 13 -> clip = narrowed(clip, c);
      default -> table = new int[] {U, 0, 0, U, 0, 0};
    }
  }

  static int[] narrowed(int[] clip, int[] c) {
    int[] n = {Math.max(clip[0], c[1]), Math.max(clip[1], c[2]), Math.min(clip[2], c[1] + c[3]),
        Math.min(clip[3], c[2] + c[4])};
    return n[0] >= n[2] || n[1] >= n[3] ? new int[4] : n;
  }

  Point sent(long x, long y) {
    BigInteger[] at = new BigInteger[2];
    for (int i = 0; i < 2; i++) {
      BigInteger far = BigInteger.ONE.shiftLeft(30);
      at[i] = rounded(table[i], x, table[2 + i], y).add(BigInteger.valueOf(table[4 + i]));
      at[i] = at[i].min(far).max(far.negate());
    }
    return new Point(at[0].longValue(), at[1].longValue());
  }

  List<Point> outline() {
    return outlines.get(outlines.size() - 1);
  }

  void begin(long x, long y) {
    outlines.add(new ArrayList<>(List.of(sent(x, y))));
    told = new Point(x, y);
    toldFirst = told;
  }

  void line(long x, long y) {
    outline().add(sent(x, y));
    told = new Point(x, y);
    lines++;
  }

  void curve(int[] c) {
    Point from = told;
    for (long k = 1; k <= 8; k++) {
      long p = (8 - k) * (8 - k), q = 2 * k * (8 - k), r = k * k;
      line(Math.floorDiv(from.x * p + c[1] * q + c[3] * r + 32, 64L),
          Math.floorDiv(from.y * p + c[2] * q + c[4] * r + 32, 64L));
    }
  }

  void close() {
    outline().add(outline().get(0));
    told = toldFirst;
    lines++;
  }

  void fill(int rule) {
    int count = 0;
    for (int y = clip[1]; y < clip[3]; y++) {
      for (int x = clip[0]; x < clip[2]; x++) {
        int turns = turns(x * (long) U + U / 2, y * (long) U + U / 2);
        if (rule == 0 ? turns != 0 : turns % 2 != 0) {
          pixels[y * w + x] = laid(pixels[y * w + x]);
          count++;
        }
      }
    }
    painted += count;
    fills += count > 0 ? 1 : 0;
  }

  int turns(long mx, long my) {
    int turns = 0;
    for (List<Point> outline : outlines) {
      for (int i = 0; i < outline.size(); i++) {
        Point p = outline.get(i), q = outline.get((i + 1) % outline.size());
        if (p.y <= my && q.y > my && passes(p, q, mx, my)) {
          turns++;
        }
        if (q.y <= my && p.y > my && passes(p, q, mx, my)) {
          turns--;
        }
      }
    }
    return turns;
  }

  /** x0 + (my - y0) (x1 - x0) / (y1 - y0) is at most mx. */
  static boolean passes(Point p, Point q, long mx, long my) {
    BigInteger left = BigInteger.valueOf(my - p.y).multiply(BigInteger.valueOf(q.x - p.x));
    BigInteger right = BigInteger.valueOf(mx - p.x).multiply(BigInteger.valueOf(q.y - p.y));
    return q.y > p.y ? left.compareTo(right) <= 0 : left.compareTo(right) >= 0;
  }

  int laid(int under) {
    int a = colour >>> 24, b = under >>> 24;
    int cover = way == 1 ? a : way == 3 ? Math.min(255, a + b) : q(255 * a + b * (255 - a));
    int result = cover << 24;
    for (int shift = 0; shift < 24; shift += 8) {
      int s = colour >> shift & 255, t = under >> shift & 255;
      int n = way == 1 ? s : way == 3 ? Math.min(255, t + q(s * a)) : 0;
      if (way == 0 || way == 2 || way == 4) {
        int m = way == 0 ? s : way == 2 ? q(s * t) : Math.max(s, t) - Math.min(s, t);
        n = q(m * a + t * (255 - a));
      }
      result |= n << shift;
    }
    return result;
  }

  static int q(int n) {
    return (n + 127) / 255;
  }

  boolean paintsNothing() {
    List<Point> all = new ArrayList<>();
    outlines.forEach(all::addAll);
    long least = all.stream().mapToLong(Point::y).min().orElse(0);
    long greatest = all.stream().mapToLong(Point::y).max().orElse(0);
    for (int y = clip[1]; y < clip[3]; y++) {
      for (int x = clip[0]; x < clip[2]; x++) {
        long mx = x * (long) U + U / 2, my = y * (long) U + U / 2;
        boolean leftOfAll = all.stream().allMatch(p -> mx < p.x);
        if (my >= least && my < greatest && !leftOfAll) {
          return false;
        }
      }
    }
    return true;
  }

  private static BigInteger rounded(long a, long x, long c, long y) {
    return BigInteger.valueOf(a).multiply(BigInteger.valueOf(x))
        .add(BigInteger.valueOf(c).multiply(BigInteger.valueOf(y))).add(BigInteger.valueOf(32768)).shiftRight(16);
  }

  private static BigInteger[] behindExactly(int[] o, int[] n) {
    return new BigInteger[] {rounded(o[0], n[0], o[2], n[1]), rounded(o[1], n[0], o[3], n[1]),
        rounded(o[0], n[2], o[2], n[3]), rounded(o[1], n[2], o[3], n[3]),
        rounded(o[0], n[4], o[2], n[5]).add(BigInteger.valueOf(o[4])),
        rounded(o[1], n[4], o[3], n[5]).add(BigInteger.valueOf(o[5]))};
  }

  private static int[] behind(int[] o, int[] n) {
    return Arrays.stream(behindExactly(o, n)).mapToInt(BigInteger::intValue).toArray();
  }

  /** The FAULT and its place. */
  static int[] lookedOver(int[] words) {
    int open = 0, lines = 0;
    boolean begun = false;
    int at = 0;
    while (at < words.length) {
      int c = words[at];
      if (c < 1 || c > 14) {
        return new int[] {1, at};
      }
      if (at + LENGTHS[c] > words.length) {
        return new int[] {2, at};
      }
      for (int i = 1; i < LENGTHS[c]; i++) {
        long v = words[at + i];
        boolean right = c >= 4 && c <= 8 ? Math.abs(v) < 67108864
            : c == 9 ? v == 0 || v == 1
            : c == 11 ? v >= 0 && v <= 4
            : c == 13 ? (i <= 2 ? Math.abs(v) < 1000000 : v >= 0 && v <= 1000000) : true;
        if (!right) {
          return new int[] {3, at};
        }
      }
      if (c == 2 && open == 0) {
        return new int[] {4, at};
      }
      if (c == 1 && open == 8) {
        return new int[] {5, at};
      }
      open += c == 1 ? 1 : c == 2 ? -1 : 0;
      if ((c == 5 || c == 6 || c == 7) && !begun) {
        return new int[] {6, at};
      }
      lines += c == 5 || c == 7 ? 1 : c == 6 ? 8 : c == 8 ? 4 : 0;
      if (lines > 300) {
        return new int[] {7, at};
      }
      begun = c == 4 || c == 8 || begun && c != 3;
      lines = c == 3 ? 0 : lines;
      at += LENGTHS[c];
    }
    return open > 0 ? new int[] {8, words.length} : new int[] {0, -2};
  }

  static List<int[]> commands(int[] words) {
    List<int[]> all = new ArrayList<>();
    for (int at = 0; at < words.length; at += LENGTHS[words[at]]) {
      all.add(Arrays.copyOfRange(words, at, at + LENGTHS[words[at]]));
    }
    return all;
  }

  private static Model before(List<int[]> list, int i, int w, int h) {
    Model model = new Model(w, h, new int[w * h]);
    for (int[] c : list.subList(0, i)) {
      if (c[0] != 9) {
        model.does(c);
      }
    }
    return model;
  }

  /** The first of these COMMANDS behind place i, or 0 for the end. */
  private static int next(List<int[]> list, int i, int... codes) {
    for (int[] c : list.subList(i + 1, list.size())) {
      for (int code : codes) {
        if (c[0] == code) {
          return code;
        }
      }
    }
    return 0;
  }

  private static int matching(List<int[]> list, int bringBack) {
    int open = 0;
    for (int i = bringBack; i >= 0; i--) {
      open += list.get(i)[0] == 2 ? 1 : list.get(i)[0] == 1 ? -1 : 0;
      if (open == 0) {
        return i;
      }
    }
    return -1;
  }

  private static boolean goes(char rule, List<int[]> list, int i, int w, int h) {
    int[] c = list.get(i);
    Model m = before(list, i, w, h);
    switch (rule) {
      case 'B':
        return c[0] == 9 && m.paintsNothing();
      case 'C':
        return c[0] >= 4 && c[0] <= 8 && next(list, i, 3, 9) != 9;
      case 'D':
        return c[0] == 3 && m.outlines.isEmpty();
      case 'E':
        if (c[0] != 10 && c[0] != 11) {
          return false;
        }
        int end = next(list, i, 9, 1, c[0], 2);
        return end == c[0] || end == 2 || end == 0 || c[1] == (c[0] == 10 ? m.colour : m.way);
      case 'F':
        return c[0] == 13 && Arrays.equals(m.clip, Model.narrowed(m.clip, c));
      case 'G':
        int[] then = c[0] == 12 ? behind(m.table, Arrays.copyOfRange(c, 1, 7)) : new int[] {U, 0, 0, U, 0, 0};
        return (c[0] == 12 || c[0] == 14) && Arrays.equals(then, m.table);
      default:
        int stop = next(list, i, 4, 5, 6, 7, 8, 9, 1, 2);
        return (c[0] == 12 || c[0] == 14 || c[0] == 13) && (stop == 2 || stop == 0);
    }
  }

  private static int[] joined(List<int[]> list, int i) {
    if (i + 1 >= list.size() || list.get(i)[0] != 12 || list.get(i + 1)[0] != 12) {
      return null;
    }
    int[] first = Arrays.copyOfRange(list.get(i), 1, 7), second = Arrays.copyOfRange(list.get(i + 1), 1, 7);
    for (int k = 0; k < 6; k++) {
      if (first[k] % U != 0 || second[k] % U != 0) {
        return null;
      }
    }
    BigInteger[] exact = behindExactly(first, second);
    int[] one = new int[7];
    one[0] = 12;
    for (int k = 0; k < 6; k++) {
      if (exact[k].bitLength() > 31) {
        return null;
      }
      one[k + 1] = exact[k].intValue();
    }
    return one;
  }

  private static boolean ruleA(List<int[]> list) {
    int last = -1;
    for (int i = 0; i < list.size(); i++) {
      last = list.get(i)[0] == 9 ? i : last;
    }
    List<int[]> kept = new ArrayList<>();
    for (int i = 0; i < list.size(); i++) {
      if (i <= last || list.get(i)[0] == 2 && last >= 0 && matching(list, i) < last) {
        kept.add(list.get(i));
      }
    }
    boolean changed = kept.size() < list.size();
    list.clear();
    list.addAll(kept);
    return changed;
  }

  private static boolean pass(char rule, List<int[]> list, int w, int h) {
    if (rule == 'A') {
      return ruleA(list);
    }
    boolean changed = false;
    int i = 0;
    while (i < list.size()) {
      if (rule == 'I') {
        if (list.get(i)[0] == 1 && i + 1 < list.size() && list.get(i + 1)[0] == 2) {
          list.remove(i);
          list.remove(i);
          changed = true;
        } else {
          i++;
        }
      } else if (goes(rule, list, i, w, h)) {
        list.remove(i);
        changed = true;
      } else {
        int[] one = rule == 'G' ? joined(list, i) : null;
        if (one != null) {
          list.set(i, one);
          list.remove(i + 1);
          changed = true;
        }
        i++;
      }
    }
    return changed;
  }

  static int[] shorterOf(int[] words, int w, int h) {
    List<int[]> list = commands(words);
    boolean changed = true;
    while (changed) {
      changed = false;
      for (char rule = 'A'; rule <= 'I'; rule++) {
        changed |= pass(rule, list, w, h);
      }
    }
    return list.stream().flatMapToInt(Arrays::stream).toArray();
  }
}
