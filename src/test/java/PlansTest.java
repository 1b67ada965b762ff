/** Promises 19 to 29: what to cry, told standings, cries by draws. */
public final class PlansTest {
  public static void main(String[] args) {
    cryFor();
    startFor();
    loudFor();
    kindFor();
    empty();
    cover();
    fits();
    kinds();
    hawk();
    odds();
    seed();
    Checks.finish("PlansTest");
  }

  /** Three widows at his door who want good 8, 8 and 9. */
  private static EmptyBarrow widows() {
    EmptyBarrow x = Checks.standing();
    for (int i = 0; i < 3; i++) {
      x.resident(Checks.WIDOW, 0);
    }
    x.change(0, 2, 1 << 8);
    x.change(1, 2, 1 << 8);
    x.change(2, 2, 1 << 9);
    return x;
  }

  private static void cryFor() {
    EmptyBarrow x = widows();
    Checks.due("for two", x.cryFor(3, 7), 8);
    Checks.due("no sale yet", x.cryFor(3, 6), 0);
    Checks.due("no day", x.cryFor(0, 0), 0);
    x.cry(1, 8);
    Checks.due("another good brings 5 more", x.cryFor(3, 7), 9);
    x.change(1, 5, 1);
    x.cry(1, 1);
    Checks.due("of several the least", x.cryFor(3, 7), 8);
    Checks.due("nothing changes", x.listed(3), 3);
    Checks.due("nothing changes", x.now(0), 0);
    int[][] beyond = {{6, 0}, {-1, 0}, {0, 61}, {0, -1}};
    for (int[] b : beyond) {
      Checks.due("cryFor " + b[0] + " " + b[1], x.cryFor(b[0], b[1]), Checks.BEYOND);
    }
    Checks.due("60 days", x.cryFor(5, 60), 8);
    x.change(0, 2, 1 << 11);
    x.change(2, 2, 1 << 11);
    Checks.due("the last good", x.cryFor(4, 7), 11);
  }

  private static void startFor() {
    EmptyBarrow x = new EmptyBarrow();
    x.resident(Checks.DEAF, 9);
    x.change(0, 2, 1);
    // Only the first and the 7th day cry good 0: behind 2 or 14 doors.
    Checks.due("first day's door or seventh's", x.startFor(7), 7);
    x.change(0, 1, 3);
    Checks.due("of several the least", x.startFor(7), 1);
    x.change(0, 2, 1 << 6);
    Checks.due("nowhere", x.startFor(60), 0);
    Checks.due("no day", x.startFor(0), 0);
    Checks.due("nothing changes", x.crier(0), 0);
    Checks.due("startFor 61", x.startFor(61), Checks.BEYOND);
    Checks.due("startFor -1", x.startFor(-1), Checks.BEYOND);
    x.change(0, 1, 1);
    x.change(0, 2, 1);
    Checks.due("behind 15 comes 0", x.startFor(7), 3);
    x.change(0, 2, 2);
    Checks.due("door 13", x.startFor(7), 13);
    x.change(0, 1, 3);
    Checks.due("door 15", x.startFor(7), 15);
  }

  private static void loudFor() {
    EmptyBarrow x = Checks.standing();
    x.resident(Checks.RESIDENT, 6);
    x.change(0, 2, 2);
    Checks.due("loud 6", x.loudFor(6, 7), 6);
    Checks.due("loud 6", x.loudFor(1, 7), 6);
    Checks.due("none", x.loudFor(7, 7), Checks.NONE);
    Checks.due("no sale", x.loudFor(1, 6), Checks.NONE);
    Checks.due("nothing needed", x.loudFor(0, 7), 0);
    Checks.due("no day", x.loudFor(0, 0), 0);
    x.change(0, 1, 9);
    Checks.due("loud 9", x.loudFor(6, 7), 9);
    x.change(0, 1, 10);
    Checks.due("too far", x.loudFor(6, 7), Checks.NONE);
    Checks.due("nothing changes", x.crier(2), 4);
    int[][] beyond = {{-1, 0}, {100000, 0}, {0, 61}, {0, -1}};
    for (int[] b : beyond) {
      Checks.due("loudFor " + b[0] + " " + b[1], x.loudFor(b[0], b[1]), Checks.BEYOND);
    }
    Checks.due("findings", x.status(3), 3);
    x.change(0, 1, 0);
    Checks.due("60 days", x.loudFor(0, 60), 0);
  }

  private static void kindFor() {
    EmptyBarrow x = Checks.standing();
    x.resident(Checks.DEAF, 0);
    x.change(0, 2, 4095);
    x.change(0, 3, 5);
    Checks.due("a widow needs no hope", x.kindFor(0, 1), 4);
    x.change(0, 3, 10);
    Checks.due("of several the least", x.kindFor(0, 1), 1);
    Checks.due("of several the least", x.kindFor(0, 0), 0);
    x.change(0, 1, 15);
    x.change(0, 3, 90);
    Checks.due("a lad hears it", x.kindFor(0, 1), 6);
    Checks.due("nothing changes", x.of(0, 0), 5);
    int[][] beyond = {{1, 0}, {-1, 0}, {0, 61}, {0, -1}};
    for (int[] b : beyond) {
      Checks.due("kindFor " + b[0] + " " + b[1], x.kindFor(b[0], b[1]), Checks.BEYOND);
    }
    x.change(0, 1, 0);
    Checks.due("60 days", x.kindFor(0, 60), 4);
  }

  private static void empty() {
    EmptyBarrow x = widows();
    Checks.due("none comes", x.empty(20), 0);
    x.cry(2, 8);
    Checks.due("two come", x.empty(20), 3);
    Checks.due("no sale", x.empty(6), 0);
    x.cry(3, 9);
    Checks.due("three come", x.empty(7), 7);
    x.change(1, 5, 1);
    Checks.due("one is away already", x.empty(7), 5);
    Checks.due("nothing changes", x.of(0, 5), 0);
    Checks.due("no day", x.empty(0), 0);
    x.go(6);
    Checks.due("the register is not empty", x.empty(1), Checks.NONE);
    Checks.due("before it is sold", x.empty(0), 0);
    x.go(1);
    Checks.due("gold as now", x.empty(6), 0);
    Checks.due("gold as now", x.empty(7), 5);
    Checks.due("empty 21", x.empty(21), Checks.BEYOND);
    Checks.due("empty -1", x.empty(-1), Checks.BEYOND);
  }

  private static void cover() {
    EmptyBarrow x = new EmptyBarrow();
    Checks.due("nobody", x.cover(0), 0);
    Checks.due("nobody", x.cover(1), Checks.NONE);
    int[] wants = {3, 12, 6, 15, 48, 9};
    for (int i = 0; i < wants.length; i++) {
      x.resident(i, 0);
      x.change(i, 2, wants[i]);
      x.change(i, 5, 1);
    }
    Checks.due("one", x.cover(15), 8);
    Checks.due("of several the least", x.cover(2), 1);
    Checks.due("two", x.cover(16 + 8), 18);
    Checks.due("two", x.cover(63), 24);
    x.change(3, 2, 0);
    Checks.due("three rather than more", x.cover(63), 19);
    Checks.due("two of several pairs", x.cover(15), 3);
    Checks.due("none", x.cover(64), Checks.NONE);
    Checks.due("none", x.cover(4095), Checks.NONE);
    Checks.due("cover 4096", x.cover(4096), Checks.BEYOND);
    Checks.due("cover -1", x.cover(-1), Checks.BEYOND);
    Checks.due("findings", x.status(3), 3);
  }

  private static void fits() {
    EmptyBarrow x = Checks.standing();
    Checks.due("no such sheet", x.fits(4, 0), Checks.BEYOND);
    Checks.due("no such sheet", x.fits(-1, 0), Checks.BEYOND);
    Checks.due("missing first", x.fits(0, 5), Checks.MISSING);
    x.sheet(0, 8, 0);
    Checks.due("no such resident", x.fits(0, 0), Checks.BEYOND);
    x.resident(Checks.RESIDENT, 0);
    x.change(0, 2, 4095);
    Checks.due("no such resident", x.fits(0, -1), Checks.BEYOND);
    Checks.due("nothing told", x.fits(0, 0), 4095);
    Checks.tell(x, 0, 8, 0, 0, 1);
    Checks.due("came on the second day", x.fits(0, 0), 2);
    Checks.tell(x, 0, 16, -1, -1, -1, 1);
    Checks.due("came in three days", x.fits(0, 0), 7);
    Checks.tell(x, 0, 32, 0, 0, 0);
    Checks.due("didn't come in two", x.fits(0, 0), 4095 - 3);
    Checks.tell(x, 0, 8, 1);
    Checks.due("now, too", x.fits(0, 0), 0);
    Checks.tell(x, 0, 8, 255, 1);
    Checks.due("255 in 8 bits is any", x.fits(0, 0), 1);
    Checks.tell(x, 0, 8, 0, 1, 1, 1, 1, 1, 1, 2);
    Checks.due("a week", x.fits(0, 0), 1);
    x.cry(3, 0);
    Checks.due("not that week", x.fits(0, 0), 0);
    Checks.due("nothing changes", x.of(0, 2), 4095);
  }

  private static void kinds() {
    EmptyBarrow x = Checks.standing();
    Checks.due("no such sheet", x.kinds(4, 0), Checks.BEYOND);
    Checks.due("no such sheet", x.kinds(-1, 0), Checks.BEYOND);
    Checks.due("missing first", x.kinds(3, 5), Checks.MISSING);
    x.sheet(3, 8, 0);
    Checks.due("no such resident", x.kinds(3, 0), Checks.BEYOND);
    x.resident(Checks.COOK, 0);
    x.change(0, 2, 1);
    Checks.due("no such resident", x.kinds(3, 1), Checks.BEYOND);
    Checks.due("nothing told", x.kinds(3, 0), 127);
    Checks.tell(x, 3, 8, 0, 1);
    Checks.due("all come", x.kinds(3, 0), 127);
    x.change(0, 3, 39);
    Checks.due("a cook wouldn't", x.kinds(3, 0), 127 - 8);
    x.change(0, 1, 6);
    Checks.due("who hears it", x.kinds(3, 0), 2 + 4 + 64);
    Checks.tell(x, 3, 8, 0, 0);
    Checks.due("who doesn't", x.kinds(3, 0), 1 + 8 + 16 + 32);
    Checks.tell(x, 3, 8, 0, -1);
    Checks.due("any", x.kinds(3, 0), 127);
    Checks.tell(x, 3, 8, 1, -1);
    Checks.due("stood now", x.kinds(3, 0), 0);
    Checks.due("nothing changes", x.of(0, 0), 3);
  }

  private static void hawk() {
    EmptyBarrow x = new EmptyBarrow();
    int z1 = 1103515245 + 12345;
    int z2 = z1 * 1103515245 + 12345;
    Checks.due("hawk", x.hawk(1), 0);
    Checks.due("good", x.listed(0), (z1 >>> 8) % 12);
    Checks.due("loud", x.crier(2), (z2 >>> 8) % 10);
    Checks.due("z", x.count(6), z2);
    Checks.due("a day", x.now(0), 1);
    Checks.due("he goes on", x.crier(0), 2);
    int z3 = z2 * 1103515245 + 12345;
    int z4 = z3 * 1103515245 + 12345;
    x.hawk(1);
    Checks.due("good", x.listed(1), (z3 >>> 8) % 12);
    Checks.due("loud", x.crier(2), (z4 >>> 8) % 10);
    EmptyBarrow y = new EmptyBarrow();
    y.resident(Checks.LAD, 9);
    y.change(0, 2, 4095);
    y.seed(-5);
    // The same twenty days, with the draws made here.
    EmptyBarrow z = new EmptyBarrow();
    z.resident(Checks.LAD, 9);
    z.change(0, 2, 4095);
    int draws = -5;
    for (int day = 0; day < 20; day++) {
      draws = draws * 1103515245 + 12345;
      z.cry(day % 6, (draws >>> 8) % 12);
      draws = draws * 1103515245 + 12345;
      z.set(2, (draws >>> 8) % 10);
      z.go(1);
    }
    Checks.due("20 days", y.hawk(20), z.now(1));
    for (int i = 0; i < 6; i++) {
      Checks.due("listed " + i, y.listed(i), z.listed(i));
    }
    Checks.due("loud", y.crier(2), z.crier(2));
    Checks.due("z", y.count(6), draws);
    Checks.due("hope", y.of(0, 3), z.of(0, 3));
    Checks.due("hawk 0", y.hawk(0), Checks.BEYOND);
    Checks.due("hawk 21", y.hawk(21), Checks.BEYOND);
    Checks.due("hawk -1", y.hawk(-1), Checks.BEYOND);
    Checks.due("no draw", y.count(6), draws);
  }

  private static void odds() {
    EmptyBarrow x = new EmptyBarrow();
    x.resident(Checks.RESIDENT, 0);
    Checks.due("none wanted", x.odds(0, 3, 0), 0);
    Checks.due("none wanted", x.odds(0, 3, 1), 1);
    Checks.due("none drawn", x.odds(0, 0, 0), 1);
    Checks.due("none drawn", x.odds(0, 0, 1), 1);
    x.change(0, 2, 4095);
    Checks.due("all wanted", x.odds(0, 17, 0), 1);
    Checks.due("all wanted", x.odds(0, 17, 1), 1);
    x.change(0, 2, 31);
    Checks.due("5 of 12", x.odds(0, 2, 0), 25);
    Checks.due("5 of 12", x.odds(0, 2, 1), 144);
    Checks.due("5 of 12, 17 times", x.odds(0, 17, 0), 762939453125L);
    Checks.due("5 of 12, 17 times", x.odds(0, 17, 1), 2218611106740436992L);
    x.change(0, 2, 2047);
    Checks.due("11 of 12, 17 times", x.odds(0, 17, 0), 505447028499293771L);
    x.change(0, 2, 255);
    Checks.due("8 of 12", x.odds(0, 3, 0), 8);
    Checks.due("8 of 12", x.odds(0, 3, 1), 27);
    x.change(0, 2, 1023 - 512);
    Checks.due("9 of 12", x.odds(0, 1, 0), 3);
    Checks.due("9 of 12", x.odds(0, 1, 1), 4);
    x.change(0, 2, 1023);
    Checks.due("10 of 12", x.odds(0, 2, 0), 25);
    Checks.due("10 of 12", x.odds(0, 2, 1), 36);
    int[][] beyond = {{1, 0, 0}, {-1, 0, 0}, {0, 18, 0}, {0, -1, 0}, {0, 0, 2}, {0, 0, -1}};
    for (int[] b : beyond) {
      String call = "odds " + b[0] + " " + b[1] + " " + b[2];
      Checks.due(call, x.odds(b[0], b[1], b[2]), Checks.BEYOND);
    }
    Checks.due("findings", x.status(0), 6);
  }

  private static void seed() {
    EmptyBarrow x = new EmptyBarrow();
    Checks.due("seed", x.seed(-1000001), 1);
    Checks.due("seed", x.seed(Integer.MIN_VALUE), -1000001);
    Checks.due("z", x.count(6), Integer.MIN_VALUE);
    Checks.due("seed", x.seed(0), Integer.MIN_VALUE);
    Checks.due("no findings", x.status(-1), 0);
  }
}
