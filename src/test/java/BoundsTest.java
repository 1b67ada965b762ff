import java.util.function.Supplier;

/**
 * Each argument of each call: the least and the greatest that are allowed, and those next to them
 * and furthest off that are not. A refused call answers BEYOND, changes nothing, and is counted.
 */
public final class BoundsTest {
  private static final Supplier<EmptyBarrow> BUSY = Streets::busy;
  private static final Supplier<EmptyBarrow> ROOMY = Streets::roomy;
  private static final int[] ANY = null;

  public static void main(String[] args) {
    Checks.due("the busy street has a register", Streets.busy().now(5) > 0 ? 1 : 0, 1);
    street();
    residents();
    days();
    plans();
    draws();
    spotsAndSheets();
    counts();
    fewerResidents();
    numbersInBetween();
    Checks.finish("BoundsTest");
  }

  private static int[] args(int... a) {
    return a;
  }

  private static int[] from(int least, int greatest) {
    return new int[] {least, greatest};
  }

  /** The arguments are fine as they are; each alone is then moved to its bounds and over them. */
  private static void bounds(Supplier<EmptyBarrow> street, String name, int[] a, int[]... bounds) {
    Checks.due("bounds of " + name, bounds.length, a.length);
    for (int i = 0; i < a.length; i++) {
      if (bounds[i] == ANY) {
        allowed(street, name, a, i, Integer.MIN_VALUE);
        allowed(street, name, a, i, Integer.MAX_VALUE);
        continue;
      }
      allowed(street, name, a, i, bounds[i][0]);
      allowed(street, name, a, i, bounds[i][1]);
      int wrong = Checks.wrongSoFar();
      refused(street, name, a, i, bounds[i][0] - 1);
      refused(street, name, a, i, bounds[i][1] + 1);
      // A call that takes one day too many might take all of these.
      if (Checks.wrongSoFar() == wrong) {
        refused(street, name, a, i, Integer.MIN_VALUE);
        refused(street, name, a, i, Integer.MAX_VALUE);
      }
    }
  }

  private static int[] moved(int[] a, int i, int v) {
    int[] other = a.clone();
    other[i] = v;
    return other;
  }

  private static void allowed(Supplier<EmptyBarrow> street, String name, int[] a, int i, int v) {
    EmptyBarrow x = street.get();
    int[] other = moved(a, i, v);
    long answer = Calls.answer(x, name, other);
    Checks.due(Calls.told(name, other) + " is BEYOND", answer == Checks.BEYOND ? 1 : 0, 0);
    Checks.due(Calls.told(name, other) + " is counted as BEYOND", x.status(0), street.get().status(0));
  }

  private static void refused(Supplier<EmptyBarrow> street, String name, int[] a, int i, int v) {
    Twins.refused(street, Checks.BEYOND, name, moved(a, i, v));
  }

  private static void street() {
    int[] top = {15, 5, 9};
    for (int what = 0; what < 3; what++) {
      bounds(BUSY, "set", args(what, 0), from(0, 2), from(0, top[what]));
    }
    bounds(BUSY, "crier", args(0), from(0, 2));
    bounds(BUSY, "cry", args(0, 0), from(0, 5), from(0, 11));
    bounds(BUSY, "listed", args(0), from(0, 5));
    bounds(BUSY, "register", args(0), from(0, 11));
    bounds(BUSY, "comers", args(0), from(0, 11));
  }

  private static void residents() {
    bounds(ROOMY, "resident", args(0, 0), from(0, 6), from(0, 15));
    bounds(BUSY, "of", args(0, 0), from(0, 7), from(0, 10));
    int[] top = {6, 15, 4095, 99, 9999, 1};
    for (int what = 0; what < 6; what++) {
      bounds(BUSY, "change", args(0, what, 0), from(0, 7), from(0, 5), from(0, top[what]));
    }
    bounds(BUSY, "tempted", args(0, 0), from(0, 7), from(0, 11));
  }

  private static void days() {
    bounds(BUSY, "go", args(1), from(1, 60));
    bounds(BUSY, "now", args(0), from(0, 7));
    bounds(BUSY, "ahead", args(0, 3, 0), from(0, 7), from(2, 4), from(0, 100));
    bounds(BUSY, "ahead", args(0, 6, 0), from(0, 7), from(6, 6), from(0, 100));
    bounds(BUSY, "gold", args(0), from(0, 100));
    bounds(BUSY, "stands", args(0, 0), from(0, 7), from(0, 9999));
    bounds(BUSY, "wants", args(0, 0), from(0, 7), from(0, 11));
    bounds(BUSY, "despair", args(0, 99), from(0, 7), from(0, 99));
  }

  private static void plans() {
    bounds(BUSY, "cryFor", args(0, 0), from(0, 5), from(0, 60));
    bounds(BUSY, "startFor", args(0), from(0, 60));
    bounds(BUSY, "loudFor", args(0, 0), from(0, 99999), from(0, 60));
    bounds(BUSY, "kindFor", args(0, 0), from(0, 7), from(0, 60));
    bounds(BUSY, "empty", args(0), from(0, 20));
    bounds(BUSY, "cover", args(0), from(0, 4095));
    bounds(BUSY, "fits", args(0, 0), from(0, 3), from(0, 7));
    bounds(BUSY, "kinds", args(0, 0), from(0, 3), from(0, 7));
  }

  private static void draws() {
    bounds(BUSY, "hawk", args(1), from(1, 20));
    bounds(BUSY, "odds", args(0, 0, 0), from(0, 7), from(0, 17), from(0, 1));
    bounds(BUSY, "seed", args(0), ANY);
    bounds(ROOMY, "feed", args(0, 1), ANY, from(1, 4));
  }

  private static void spotsAndSheets() {
    bounds(BUSY, "hold", args(0, 0), from(0, 9), from(-1, 7));
    bounds(BUSY, "as", args(0, 0), from(0, 9), from(0, 6));
    for (int bits : new int[] {0, 8, 16, 32}) {
      allowed(BUSY, "sheet", args(0, bits, 0), 1, bits);
      allowed(BUSY, "sheet", args(0, bits, 0), 0, 3);
      allowed(BUSY, "sheet", args(0, bits, 0), 2, 40);
      for (int s : new int[] {-1, 4, Integer.MIN_VALUE, Integer.MAX_VALUE}) {
        refused(BUSY, "sheet", args(0, bits, 0), 0, s);
      }
      refused(BUSY, "sheet", args(0, bits, 0), 1, bits - 1);
      refused(BUSY, "sheet", args(0, bits, 0), 1, bits + 1);
      refused(BUSY, "sheet", args(0, bits, 0), 2, 41);
      refused(BUSY, "sheet", args(0, bits, 0), 2, Integer.MAX_VALUE);
    }
    for (int bits : new int[] {4, 24, 64, 256, -8, -32, Integer.MIN_VALUE, Integer.MAX_VALUE}) {
      refused(BUSY, "sheet", args(0, 8, 0), 1, bits);
    }
    bounds(BUSY, "write", args(0, 0, 0), from(0, 3), from(0, 4), ANY);
    bounds(BUSY, "copy", args(0, 0, 1, 0, 3), from(0, 3), from(0, 2), from(0, 3), from(0, 0),
        from(0, 3));
    bounds(BUSY, "copy", args(1, 0, 0, 0, 3), from(0, 3), from(0, 0), from(0, 3), from(0, 2),
        from(0, 3));
    bounds(BUSY, "copy", args(0, 0, 1, 0, 0), from(0, 3), from(0, 5), from(0, 3), from(0, 3),
        from(0, 3));
    bounds(BUSY, "load", args(0), from(0, 3));
    bounds(BUSY, "judge", args(0), from(0, 3));
  }

  private static void counts() {
    bounds(BUSY, "count", args(0), from(0, 7));
    bounds(BUSY, "status", args(0), from(-1, 6));
  }

  /** Residents are those who are there: with three 0 to 2, with none no number at all. */
  private static void fewerResidents() {
    Supplier<EmptyBarrow> three = () -> {
      EmptyBarrow x = Streets.roomy();
      x.sheet(0, 8, 1);
      return x;
    };
    Supplier<EmptyBarrow> none = () -> {
      EmptyBarrow x = new EmptyBarrow();
      x.sheet(0, 8, 1);
      return x;
    };
    Object[][] calls = {{"of", 0, args(0, 0)}, {"change", 0, args(0, 0, 0)},
        {"tempted", 0, args(0, 0)}, {"ahead", 0, args(0, 2, 0)}, {"stands", 0, args(0, 0)},
        {"wants", 0, args(0, 0)}, {"despair", 0, args(0, 0)}, {"kindFor", 0, args(0, 0)},
        {"odds", 0, args(0, 0, 0)}, {"fits", 1, args(0, 0)}, {"kinds", 1, args(0, 0)},
        {"hold", 1, args(0, 0)}};
    for (Object[] c : calls) {
      allowed(three, (String) c[0], (int[]) c[2], (int) c[1], 2);
      refused(three, (String) c[0], (int[]) c[2], (int) c[1], 3);
      refused(none, (String) c[0], (int[]) c[2], (int) c[1], 0);
    }
    allowed(none, "hold", args(0, 0), 1, -1);
  }

  /** Where not all numbers between the least and the greatest are allowed. */
  private static void numbersInBetween() {
    for (int what : new int[] {0, 1, 5, 7, 8, 9, 10}) {
      refused(BUSY, "ahead", args(0, 2, 0), 1, what);
    }
    for (int bits = 1; bits < 32; bits++) {
      if (bits != 8 && bits != 16) {
        refused(BUSY, "sheet", args(0, 8, 0), 1, bits);
      }
    }
  }
}
