import java.util.ArrayList;
import java.util.Arrays;
import java.util.List;
import java.util.Random;

/** Makes lists that are mostly right, with much in them that can go. */
final class Maker {
  private static final int U = 65536;
  private static final int BLACK = 0xFF000000;

  final Random random;
  final List<Integer> words = new ArrayList<>();
  int open = 0, lines = 0;
  boolean begun = false, tiny = false, calm = false;

  Maker(long seed) {
    // Seeds that are near each other begin with the same numbers, so they are spread first.
    random = new Random(seed * 0x9E3779B97F4A7C15L);
  }

  int pick(int... of) {
    return of[random.nextInt(of.length)];
  }

  int length() {
    if (tiny) {
      return random.nextInt(40) - 8;
    }
    switch (random.nextInt(calm ? 5 : 8)) {
      case 4:
        return (random.nextInt(40) - 10) * U / 2;
      case 5:
        return random.nextInt(67108864) * pick(1, -1);
      case 6:
        return random.nextInt(64) - 32;
      case 3:
        return random.nextInt(12 * U) - 2 * U;
      default:
        return (random.nextInt(14) - 2) * U;
    }
  }

  int tableNumber() {
    switch (random.nextInt(6)) {
      case 0:
        return random.nextInt();
      case 1:
        return pick(Integer.MIN_VALUE, Integer.MAX_VALUE, 1, -1, 32768, -32768);
      case 2:
        return random.nextInt(4 * U) - 2 * U;
      default:
        return (random.nextInt(7) - 3) * U;
    }
  }

  void add(int... all) {
    for (int word : all) {
      words.add(word);
    }
  }

  int wholeNumber() {
    return pick(0, 0, 0, random.nextInt(7) - 3, random.nextInt(600) - 300, random.nextInt(U) - U / 2) * U;
  }

  void table() {
    if (calm && random.nextBoolean()) {
      add(14);
    }
    switch (calm ? pick(1, 2, 6, 7, 7) : random.nextInt(9)) {
      case 0:
        add(12, tableNumber(), tableNumber(), tableNumber(), tableNumber(), tableNumber(), tableNumber());
        break;
      case 1:
        add(12, U, 0, 0, U, 0, 0);
        break;
      case 2:
        add(12, 0, U, -U, 0, pick(0, 8 * U, 4 * U), 0);
        break;
      case 3:
        add(12, U, 0, 0, U, pick(20000, -20000, 1, 2, 16384) * U, pick(0, 0, 1, -3) * U);
        break;
      case 4:
        add(12, wholeNumber(), wholeNumber(), wholeNumber(), wholeNumber(), wholeNumber(), wholeNumber());
        break;
      case 5:
        add(12, random.nextInt(3 * U) - U, random.nextInt(U) - U / 2, random.nextInt(U) - U / 2,
            random.nextInt(3 * U) - U, random.nextInt(4 * U), random.nextInt(4 * U));
        break;
      case 6:
        add(12, U + random.nextInt(U / 4) - U / 8, random.nextInt(U / 4) - U / 8, random.nextInt(U / 4) - U / 8,
            U + random.nextInt(U / 4) - U / 8, random.nextInt(U) - U / 2, random.nextInt(U) - U / 2);
        break;
      case 7:
        add(12, U, 0, 0, U, (random.nextInt(5) - 2) * U, (random.nextInt(5) - 2) * U);
        break;
      default:
        add(12, pick(1, 2, 256, -1) * U, 0, 0, pick(1, 2, 256) * U, pick(0, 1, -1) * U, 0);
        break;
    }
  }

  void pathCommand() {
    int kind = random.nextInt(6);
    if (!begun || kind == 0) {
      add(4, length(), length());
      begun = true;
    } else if (kind == 1 && lines <= 290) {
      add(6, length(), length(), length(), length());
      lines += 8;
    } else if (kind == 2 && lines <= 290) {
      add(7);
      lines++;
    } else if (lines <= 290) {
      add(5, length(), length());
      lines++;
    }
  }

  void command() {
    int kind = random.nextInt(26);
    if (kind < 6) {
      pathCommand();
    } else if (kind < 9 && lines <= 290) {
      add(8, length(), length(), length(), length());
      begun = true;
      lines += 4;
      if (calm && random.nextBoolean()) {
        add(9, random.nextInt(2));
      }
    } else if (kind < 12) {
      add(9, random.nextInt(2));
    } else if (kind < 14) {
      add(3);
      begun = false;
      lines = 0;
    } else if (kind < 16) {
      add(10, pick(BLACK, 0x80FF0000, random.nextInt(), random.nextInt()));
    } else if (kind == 16) {
      add(11, random.nextInt(5));
    } else if (kind < 20) {
      for (int n = tiny ? random.nextInt(8) / 7 : pick(1, 1, 2, 3); n > 0; n--) {
        table();
      }
    } else if (kind == 20) {
      add(13, random.nextInt(6) - 3, random.nextInt(6) - 3, random.nextInt(14) + (calm ? 4 : 0),
          random.nextInt(14) + (calm ? 4 : 0));
    } else if (kind == 21) {
      add(14);
    } else if (kind < 24 && open < 8) {
      add(1);
      open++;
    } else if (open > 0) {
      add(2);
      open--;
    }
  }

  /** Tiny ones have few bits in each number, so that it shows how points of curves are rounded; calm ones paint. */
  int[] list(int commands) {
    tiny = random.nextInt(4) == 0;
    calm = random.nextInt(2) == 0;
    if (tiny) {
      add(12, 16384 * U, 0, 0, 16384 * U, random.nextInt(U), random.nextInt(U));
    }
    for (int i = 0; i < commands; i++) {
      command();
    }
    while (open > 0) {
      if (random.nextInt(4) == 0) {
        add(9, 0);
      }
      add(2);
      open--;
    }
    return words.stream().mapToInt(Integer::intValue).toArray();
  }

  int[] spoilt(int[] list) {
    int[] words = list.clone();
    if (words.length > 0) {
      words[random.nextInt(words.length)] = pick(0, 1, 2, 5, 7, 9, 15, -1, 67108864, 1000001, random.nextInt());
      words = random.nextInt(3) == 0 ? Arrays.copyOf(words, random.nextInt(words.length + 1)) : words;
    }
    return words;
  }
}
