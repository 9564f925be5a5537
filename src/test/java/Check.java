import java.lang.reflect.InvocationTargetException;
import java.lang.reflect.Method;
import java.lang.reflect.Modifier;
import java.util.Arrays;
import java.util.Comparator;

/** What the tests by hand share: how they are run, how lists are fed, how objects and sheets are looked at. */
final class Check {
  static final int NOT_TOLD = -2000000000;
  static final int U = 65536, HALF = 32768;
  static final int LEAST = Integer.MIN_VALUE, MOST = Integer.MAX_VALUE;
  static final int BLACK = 0xFF000000;
  static final int FULL = 1500;
  private static int wrong = 0;
  private static String test = "";

  private Check() { }

  /** Runs each test of the class, which is a static method with a '_' in its name, so that none can be forgotten. */
  static void runAll(Class<?> tests) {
    Method[] methods = tests.getDeclaredMethods();
    Arrays.sort(methods, Comparator.comparing(Method::getName));
    int count = 0;
    for (Method method : methods) {
      if (method.getName().indexOf('_') > 0 && Modifier.isStatic(method.getModifiers())) {
        count++;
        run(method);
      }
    }
    System.out.println(count + " tests, " + (wrong == 0 ? "all answers are as due" : wrong + " answers are not as due"));
    if (wrong != 0 || count == 0) {
      System.exit(1);
    }
  }

  private static void run(Method method) {
    test = method.getName();
    try {
      method.invoke(null);
    } catch (InvocationTargetException e) {
      tell("threw " + e.getCause());
    } catch (IllegalAccessException e) {
      tell("can't be called");
    }
  }

  static void tell(String what) {
    wrong++;
    System.out.println(test + ": " + what);
  }

  static void due(String call, long got, long want) {
    if (got != want) {
      tell(call + " answered " + got + ", due is " + want);
    }
  }

  static int[] of(int... words) {
    return words;
  }

  static int[] join(int[]... parts) {
    return Arrays.stream(parts).flatMapToInt(Arrays::stream).toArray();
  }

  static int[] times(int n, int... words) {
    int[] all = new int[n * words.length];
    for (int i = 0; i < all.length; i++) {
      all[i] = words[i % words.length];
    }
    return all;
  }

  static void feedAll(ListPainter x, int... words) {
    int i = 0;
    for (; i + 5 <= words.length; i += 5) {
      x.five(words[i], words[i + 1], words[i + 2], words[i + 3], words[i + 4]);
    }
    for (; i < words.length; i++) {
      x.feed(words[i]);
    }
  }

  static ListPainter with(int w, int h, int... words) {
    ListPainter x = new ListPainter(w, h);
    feedAll(x, words);
    return x;
  }

  static ListPainter ready(int w, int h, int... words) {
    ListPainter x = with(w, h, words);
    due("verify() of a right list", x.verify(), 0);
    return x;
  }

  static ListPainter done(int w, int h, int... words) {
    ListPainter x = ready(w, h, words);
    due("render() of a right list", x.render(100000), 0);
    return x;
  }

  static void fault(String what, int fault, int place, int... words) {
    ListPainter x = with(4, 4, words);
    due(what + ": verify()", x.verify(), fault);
    due(what + ": state(2)", x.state(2), place);
  }

  static void noFault(String what, int... words) {
    fault(what, 0, ListPainter.NONE, words);
  }

  /** Each row as text: a '#' for each PIXEL that is not 0. */
  static void shows(String what, ListPainter x, String... rows) {
    for (int y = 0; y < rows.length; y++) {
      StringBuilder row = new StringBuilder();
      for (int i = 0; i < rows[y].length(); i++) {
        row.append(x.pixel(i, y) != 0 ? '#' : '.');
      }
      if (!row.toString().equals(rows[y])) {
        tell(what + ", row " + y + " is " + row + ", due is " + rows[y]);
      }
    }
  }

  /** All that an object tells without being changed, in 40 calls; of SHORTER its first words. */
  static int[] look(ListPainter x) {
    int[] seen = new int[40];
    for (int what = 0; what <= 18; what++) {
      seen[what] = x.state(what);
    }
    for (int i = 0; i < 20; i++) {
      seen[19 + i] = x.shorter(i);
    }
    seen[39] = x.sum();
    return seen;
  }

  static void unchanged(String call, int[] before, ListPainter x) {
    int[] now = look(x);
    if (!Arrays.equals(before, now)) {
      tell(call + " changed " + Arrays.toString(before) + " to " + Arrays.toString(now));
    }
  }

  static int[] shorterOf(int w, int h, int... words) {
    ListPainter x = ready(w, h, words);
    int[] made = new int[Math.max(0, x.optimise())];
    for (int i = 0; i < made.length; i++) {
      made[i] = x.shorter(i);
    }
    return made;
  }

  /** What comes of a list on a sheet of 8 by 8. */
  static void becomes(String what, int[] words, int... want) {
    int[] got = shorterOf(8, 8, words);
    if (!Arrays.equals(got, want)) {
      tell(what + ": " + Arrays.toString(words) + " became " + Arrays.toString(got) + ", due is " + Arrays.toString(want));
    }
  }

  static void stays(String what, int... words) {
    becomes(what, words, words);
  }
}
