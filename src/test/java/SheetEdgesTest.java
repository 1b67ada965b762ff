/** Promises 33 to 39: first and last spot, sheet and number; empty, full and missing ones. */
public final class SheetEdgesTest {
  private static final int[] BITS = {8, 16, 32};

  public static void main(String[] args) {
    spots();
    spotOfWhoIsChanged();
    asOneOfEachKind();
    sheetOfEachSize();
    sheetMadeAnew();
    sheetGone();
    writeFirstAndLast();
    writeLowestBits();
    copyUpToTheEnds();
    copyOfNone();
    copyOverItself();
    loadUpToResidents();
    loadUpTo4095();
    judgeEachPlace();
    judgeOfFewAndMany();
    Checks.finish("SheetEdgesTest");
  }

  private static EmptyBarrow eight() {
    EmptyBarrow x = new EmptyBarrow();
    for (int i = 0; i < 8; i++) {
      x.resident(i % 7, i);
    }
    return x;
  }

  private static void spots() {
    EmptyBarrow x = eight();
    for (int spot = 0; spot < 10; spot++) {
      Checks.due("spots", x.count(7), spot);
      Checks.due("empty", x.as(spot, 0), Checks.MISSING);
      Checks.due("hold", x.hold(spot, spot % 8), 1);
      Checks.due("held", x.as(spot, 0), spot % 8);
    }
    Checks.due("all ten", x.count(7), 10);
    Checks.due("hold another", x.hold(9, 7), 1);
    Checks.due("held", x.as(9, 0), 7);
    Checks.due("all ten", x.count(7), 10);
    for (int spot = 9; spot >= 0; spot--) {
      Checks.due("hold nothing", x.hold(spot, -1), 1);
      Checks.due("spots", x.count(7), spot);
    }
    Checks.due("nothing there to be taken", x.hold(0, -1), 1);
    Checks.due("no spots", x.count(7), 0);
    Checks.due("nothing", x.as(0, 0), Checks.MISSING);
  }

  private static void spotOfWhoIsChanged() {
    EmptyBarrow x = eight();
    x.hold(0, 7);
    Checks.due("a resident", x.as(0, 1), Checks.KIND);
    x.change(7, 0, Checks.WIDOW);
    Checks.due("a widow now", x.as(0, 4), 7);
    Checks.due("under cook", x.as(0, 3), 7);
    x.change(7, 5, 1);
    Checks.due("away, but held", x.as(0, 4), 7);
  }

  private static void asOneOfEachKind() {
    boolean[][] is = new boolean[7][7];
    int[][] pairs = {{0, 0}, {1, 1}, {1, 0}, {2, 2}, {2, 0}, {3, 3}, {3, 1}, {3, 0}, {4, 4}, {4, 3},
        {4, 1}, {4, 0}, {5, 5}, {5, 0}, {6, 6}, {6, 2}, {6, 0}};
    for (int[] p : pairs) {
      is[p[0]][p[1]] = true;
    }
    EmptyBarrow x = eight();
    for (int own = 0; own < 7; own++) {
      x.hold(9, own);
      for (int kind = 0; kind < 7; kind++) {
        Checks.due(own + " as " + kind, x.as(9, kind), is[own][kind] ? own : Checks.KIND);
      }
    }
  }

  private static void sheetOfEachSize() {
    for (int bits : BITS) {
      for (int n : new int[] {0, 1, 39, 40}) {
        for (int s = 0; s < 4; s++) {
          EmptyBarrow x = new EmptyBarrow();
          Checks.due("sheet of " + n, x.sheet(s, bits, n), n);
          Checks.due("its last", x.write(s, n - 1, 1), n == 0 ? Checks.BEYOND : 1);
          Checks.due("one behind", x.write(s, n, 1), Checks.BEYOND);
          Checks.due("the others are missing", x.load((s + 1) % 4), Checks.MISSING);
        }
      }
    }
  }

  private static void sheetMadeAnew() {
    EmptyBarrow x = eight();
    x.sheet(0, 16, 40);
    for (int i = 0; i < 40; i++) {
      x.write(0, i, 7);
    }
    Checks.due("fewer", x.sheet(0, 16, 3), 3);
    Checks.due("no such number now", x.write(0, 3, 1), Checks.BEYOND);
    Checks.due("more", x.sheet(0, 8, 40), 40);
    Checks.due("all eight", x.load(0), 8);
    for (int i = 0; i < 8; i++) {
      Checks.due("all 0", x.of(i, 2), 0);
    }
    x.sheet(1, 8, 8);
    for (int from = 8; from <= 32; from += 8) {
      x.change(0, 2, 9);
      x.copy(0, from, 1, 0, 8);
      x.load(1);
      for (int i = 0; i < 8; i++) {
        Checks.due("all 0 from " + from, x.of(i, 2), 0);
      }
    }
    Checks.due("a refused one keeps it", x.sheet(0, 8, 41), Checks.BEYOND);
    Checks.due("a refused one keeps it", x.sheet(0, 0, -1), Checks.SIZE);
    Checks.due("still 40", x.write(0, 39, 1), 1);
  }

  private static void sheetGone() {
    for (int bits : BITS) {
      for (int n : new int[] {0, 1, 40}) {
        EmptyBarrow x = eight();
        x.sheet(2, bits, 4);
        x.write(2, 0, 5);
        Checks.due("gone", x.sheet(2, 0, n), 0);
        Checks.due("missing", x.write(2, 0, 1), Checks.MISSING);
        Checks.due("missing", x.load(2), Checks.MISSING);
        Checks.due("gone again", x.sheet(2, 0, n), 0);
        Checks.due("back", x.sheet(2, bits, 1), 1);
        Checks.due("all 0", x.judge(2), 0);
      }
    }
  }

  private static void writeFirstAndLast() {
    EmptyBarrow x = eight();
    x.sheet(3, 16, 8);
    for (int i = 0; i < 8; i++) {
      Checks.due("write " + i, x.write(3, i, 100 + i), 1);
    }
    Checks.due("load", x.load(3), 8);
    for (int i = 0; i < 8; i++) {
      Checks.due("number " + i, x.of(i, 2), 100 + i);
    }
    Checks.due("behind the last", x.write(3, 8, 1), Checks.BEYOND);
    Checks.due("before the first", x.write(3, -1, 1), Checks.BEYOND);
    Checks.due("far off", x.write(3, Integer.MAX_VALUE, 1), Checks.BEYOND);
    Checks.due("far off", x.write(3, Integer.MIN_VALUE, 1), Checks.BEYOND);
  }

  /** What a number became: what its resident wants, or -1 where it isn't 0 to 4095. */
  private static void writeLowestBits() {
    int[][] told = {{8, 127, 127}, {8, 128, -1}, {8, 255, -1}, {8, 256, 0}, {8, 383, 127},
        {8, 384, -1}, {8, -128, -1}, {8, -129, 127}, {8, -256, 0}, {8, Integer.MIN_VALUE, 0},
        {8, Integer.MAX_VALUE, -1}, {16, 128, 128}, {16, 255, 255}, {16, 256, 256},
        {16, 4095, 4095}, {16, 4096, -1}, {16, 32767, -1}, {16, 32768, -1}, {16, 65535, -1},
        {16, 65536, 0}, {16, 65537, 1}, {16, 69631, 4095}, {16, -65535, 1}, {16, -1, -1},
        {16, Integer.MIN_VALUE, 0}, {32, 4095, 4095}, {32, 4096, -1}, {32, 65536, -1},
        {32, 65537, -1}, {32, -65535, -1}, {32, -1, -1}, {32, Integer.MIN_VALUE, -1},
        {32, Integer.MAX_VALUE, -1}};
    for (int[] t : told) {
      EmptyBarrow x = eight();
      x.sheet(0, t[0], 1);
      Checks.due("write", x.write(0, 0, t[1]), 1);
      Checks.due(t[1] + " in " + t[0] + " bits", x.load(0), t[2] < 0 ? 0 : 1);
      Checks.due(t[1] + " in " + t[0] + " bits", x.of(0, 2), Math.max(0, t[2]));
    }
  }

  private static void copyUpToTheEnds() {
    for (int bits : BITS) {
      EmptyBarrow x = eight();
      x.sheet(0, bits, 40);
      x.sheet(1, bits, 8);
      for (int i = 32; i < 40; i++) {
        x.write(0, i, i);
      }
      Checks.due("the last eight", x.copy(0, 32, 1, 0, 8), 8);
      Checks.due("nine are too many", x.copy(0, 31, 1, 0, 9), Checks.BEYOND);
      Checks.due("one too far", x.copy(0, 33, 1, 0, 8), Checks.BEYOND);
      Checks.due("one too far", x.copy(0, 32, 1, 1, 8), Checks.BEYOND);
      Checks.due("the last one", x.copy(0, 39, 1, 0, 1), 1);
      Checks.due("behind the last", x.copy(0, 40, 1, 0, 1), Checks.BEYOND);
      Checks.due("to the last one", x.copy(0, 0, 1, 7, 1), 1);
      Checks.due("to behind it", x.copy(0, 0, 1, 8, 1), Checks.BEYOND);
      Checks.due("load", x.load(1), 8);
      int[] want = {39, 33, 34, 35, 36, 37, 38, 0};
      for (int i = 0; i < 8; i++) {
        Checks.due("number " + i, x.of(i, 2), want[i]);
      }
      Checks.due("all forty onto themselves", x.copy(0, 0, 0, 0, 40), 40);
      Checks.due("41", x.copy(0, 0, 0, 0, 41), Checks.BEYOND);
      Checks.due("no sum runs over", x.copy(0, Integer.MAX_VALUE, 1, 0, 2), Checks.BEYOND);
      Checks.due("no sum runs over", x.copy(0, 2, 1, 0, Integer.MAX_VALUE), Checks.BEYOND);
      Checks.due("no sum runs over", x.copy(0, 0, 1, Integer.MAX_VALUE, 2), Checks.BEYOND);
    }
  }

  private static void copyOfNone() {
    EmptyBarrow x = new EmptyBarrow();
    x.sheet(0, 8, 2);
    x.sheet(1, 8, 0);
    Checks.due("none", x.copy(0, 0, 1, 0, 0), 0);
    Checks.due("none of an empty one", x.copy(1, 0, 0, 0, 0), 0);
    Checks.due("none, from its end", x.copy(0, 2, 1, 0, 0), 0);
    Checks.due("none, to its end", x.copy(1, 0, 0, 2, 0), 0);
    Checks.due("none, from behind its end", x.copy(0, 3, 1, 0, 0), Checks.BEYOND);
    Checks.due("none, to behind its end", x.copy(0, 0, 1, 1, 0), Checks.BEYOND);
    Checks.due("one to an empty one", x.copy(0, 0, 1, 0, 1), Checks.BEYOND);
    Checks.due("one of an empty one", x.copy(1, 0, 0, 0, 1), Checks.BEYOND);
    Checks.due("below 0", x.copy(0, 1, 0, 1, -1), Checks.BEYOND);
  }

  private static void copyOverItself() {
    int[][] copies = {{0, 1, 7}, {1, 0, 7}, {0, 2, 4}, {3, 1, 4}, {0, 0, 8}, {0, 7, 1}, {7, 0, 1}};
    for (int[] c : copies) {
      EmptyBarrow x = eight();
      int[] want = {1, 2, 3, 4, 5, 6, 7, 8};
      Checks.tell(x, 0, 8, want);
      System.arraycopy(want.clone(), c[0], want, c[1], c[2]);
      Checks.due("copy", x.copy(0, c[0], 0, c[1], c[2]), c[2]);
      x.load(0);
      for (int i = 0; i < 8; i++) {
        Checks.due("as they all were, number " + i, x.of(i, 2), want[i]);
      }
    }
  }

  private static void loadUpToResidents() {
    for (int there = 0; there <= 8; there++) {
      for (int n : new int[] {0, 1, 7, 8, 9, 40}) {
        EmptyBarrow x = new EmptyBarrow();
        for (int i = 0; i < there; i++) {
          x.resident(Checks.COOK, 0);
          x.change(i, 2, 4095);
        }
        x.sheet(0, 16, n);
        Checks.due(n + " numbers, " + there + " residents", x.load(0), Math.min(n, there));
        for (int i = 0; i < there; i++) {
          Checks.due("wants of " + i, x.of(i, 2), i < n ? 0 : 4095);
        }
      }
    }
  }

  private static void loadUpTo4095() {
    for (int at = 0; at < 8; at++) {
      for (int wrong : new int[] {-1, 4096, Integer.MIN_VALUE, Integer.MAX_VALUE}) {
        EmptyBarrow x = eight();
        x.sheet(0, 32, 8);
        for (int i = 0; i < 8; i++) {
          x.write(0, i, i == at ? wrong : 4095 * (i % 2));
          x.change(i, 2, 5);
        }
        Checks.due("load up to place " + at, x.load(0), at);
        for (int i = 0; i < 8; i++) {
          Checks.due("wants of " + i, x.of(i, 2), i < at ? 4095 * (i % 2) : 5);
        }
        Checks.due("no finding", x.status(-1), 0);
      }
    }
  }

  /** A register in which the last good has something, too. */
  private static EmptyBarrow registered() {
    EmptyBarrow x = Streets.widows(2, 4095);
    x.cry(1, 11);
    x.go(2);
    return x;
  }

  private static void judgeEachPlace() {
    EmptyBarrow x = registered();
    x.sheet(0, 8, 12);
    x.write(0, 0, 2);
    x.write(0, 11, 2);
    Checks.due("so", x.judge(0), 0);
    for (int good = 11; good >= 0; good--) {
      x.write(0, good, x.register(good) + 1);
      Checks.due("first that isn't: " + good, x.judge(0), 1 + good);
    }
    Checks.due("no finding", x.status(-1), 0);
  }

  private static void judgeOfFewAndMany() {
    EmptyBarrow x = registered();
    Checks.due("none told", x.sheet(0, 8, 0) + x.judge(0), 0);
    Checks.tell(x, 0, 8, 2);
    Checks.due("one told", x.judge(0), 0);
    Checks.tell(x, 0, 8, 1);
    Checks.due("one told wrong", x.judge(0), 1);
    Checks.tell(x, 0, 8, 3);
    Checks.due("one told wrong", x.judge(0), 1);
    Checks.tell(x, 0, 8, 2, 0, 0, 0, 0, 0, 0, 0, 0, 0, 0, 2);
    Checks.due("twelve told", x.judge(0), 0);
    Checks.tell(x, 0, 8, 2, 0, 0, 0, 0, 0, 0, 0, 0, 0, 0, 2, 0);
    Checks.due("a 13th is of no good", x.judge(0), 13);
    x.sheet(1, 8, 40);
    x.write(1, 0, 2);
    x.write(1, 11, 2);
    Checks.due("forty told", x.judge(1), 13);
    x.write(1, 11, 0);
    Checks.due("the last good isn't so", x.judge(1), 12);
  }
}
