/** Promises 19 to 28: no day, the last day, the first of several, nobody, everybody. */
public final class PlanEdgesTest {
  public static void main(String[] args) {
    cryForEachGood();
    cryForEachPlace();
    startForEachDoor();
    loudForEachLoud();
    loudForGoldAsItIs();
    kindForEachKind();
    cryForOnThe60thDay();
    emptyOnThe20thDay();
    emptyGroups();
    coverGroups();
    standingsOfNothing();
    standingsOfForty();
    standingsAny();
    standingsNow();
    standingsOfWhoIsAway();
    standingsOfEachKind();
    hawkOnceAndTwentyTimes();
    oddsOfEachCount();
    Checks.finish("PlanEdgesTest");
  }

  private static void cryForEachGood() {
    for (int good = 0; good < 12; good++) {
      EmptyBarrow x = Streets.widows(1, 1 << good);
      for (int i = 0; i < 6; i++) {
        x.cry(i, good == 0 ? 1 : 0);
      }
      Checks.due("the one that is wanted", x.cryFor(0, 7), good);
      Checks.due("no sale in 6 days", x.cryFor(0, 6), 0);
      Checks.due("no day", x.cryFor(0, 0), 0);
      x.change(0, 2, 1 << good | 1 << 11);
      Checks.due("of two the first", x.cryFor(0, 7), good);
    }
  }

  private static void cryForEachPlace() {
    for (int i = 0; i < 6; i++) {
      EmptyBarrow x = Streets.widows(1, 1 << 7);
      x.go(6 + i);
      // On this one day place i is cried; behind the sale it shows.
      int days = 7 - (6 + i) % 7;
      Checks.due("place " + i, x.cryFor(i, days), 7);
      int other = (i + 5) % 6;
      Checks.due("a place that isn't cried", x.cryFor(other, 1), 0);
    }
  }

  private static void startForEachDoor() {
    for (int door = 0; door < 16; door++) {
      EmptyBarrow x = new EmptyBarrow();
      x.resident(Checks.DEAF, (door + 4) % 16);
      x.change(0, 2, 2);
      // Good 1 is cried on the second day alone, two paces of 2 from where he was.
      Checks.due("start for door " + door, x.startFor(7), door);
      Checks.due("no sale in 6 days", x.startFor(6), 0);
      Checks.due("no day", x.startFor(0), 0);
    }
    EmptyBarrow x = Checks.standing();
    x.resident(Checks.RESIDENT, 15);
    x.change(0, 2, 2);
    Checks.due("the least of several", x.startFor(7), 11);
  }

  private static void loudForEachLoud() {
    for (int loud = 0; loud <= 9; loud++) {
      EmptyBarrow x = Streets.withOne(Checks.RESIDENT, loud, 2, 50);
      Checks.due("as loud as it is far", x.loudFor(6, 7), loud);
      Checks.due("one too much", x.loudFor(7, 7), Checks.NONE);
      Checks.due("no sale", x.loudFor(6, 6), Checks.NONE);
    }
    EmptyBarrow x = Streets.withOne(Checks.RESIDENT, 10, 2, 50);
    Checks.due("no loud reaches so far", x.loudFor(1, 60), Checks.NONE);
  }

  private static void loudForGoldAsItIs() {
    EmptyBarrow x = Streets.widows(1, 1);
    x.go(7);
    Checks.due("gold", x.now(1), 7);
    Checks.due("what there is", x.loudFor(7, 0), 0);
    Checks.due("one more", x.loudFor(8, 0), Checks.NONE);
    Checks.due("nothing", x.loudFor(0, 0), 0);
    Checks.due("all", x.loudFor(99999, 0), Checks.NONE);
  }

  /** Each kind has a street on which it alone, or first of all, stands most. */
  private static void kindForEachKind() {
    int[][] streets = {
        // door, hope, days, the kind: loud is 4
        {0, 50, 1, 0}, {5, 50, 1, 1}, {8, 20, 1, 2}, {0, 5, 1, 4}, {9, 50, 1, 6}, {0, 50, 0, 0},
        {15, 19, 1, 0}, {15, 20, 1, 6}, {0, 10, 1, 1}, {0, 9, 1, 4}, {0, 0, 1, 4}};
    for (int[] s : streets) {
      EmptyBarrow x = Streets.withOne(Checks.DEAF, s[0], 1, s[1]);
      String told = "door " + s[0] + ", hope " + s[1] + ", " + s[2] + " days";
      Checks.due("kind for " + told, x.kindFor(0, s[2]), s[3]);
    }
    EmptyBarrow x = Streets.withOne(Checks.DEAF, 0, 4095, 50);
    x.change(0, 4, 9999);
    Checks.due("stood can't be more", x.kindFor(0, 60), 0);
    x.change(0, 4, 9998);
    Checks.due("once more, by each", x.kindFor(0, 60), 0);
  }

  /**
   * A cook who comes on the 60th day alone, which is one of a sale: from day 3 on he is near her door
   * when place 2 is cried on days 14 and 62, and on day 14 she has 33 hope, 7 too few.
   */
  private static void cryForOnThe60thDay() {
    EmptyBarrow x = new EmptyBarrow();
    x.set(1, 1);
    x.set(2, 0);
    x.go(3);
    x.resident(Checks.COOK, 15);
    x.change(0, 2, 1 << 8);
    x.change(0, 3, 0);
    Checks.due("59 days", x.cryFor(2, 59), 0);
    Checks.due("60 days", x.cryFor(2, 60), 8);
  }

  /** A cook of no hope comes on day 17 first, and the 20th day from day 1 on sells that. */
  private static void emptyOnThe20thDay() {
    EmptyBarrow x = Checks.standing();
    x.go(1);
    x.resident(Checks.COOK, 0);
    x.change(0, 2, 1 << 5);
    x.change(0, 3, 0);
    Checks.due("19 days", x.empty(19), 0);
    Checks.due("20 days", x.empty(20), 1);
  }

  private static void emptyGroups() {
    EmptyBarrow x = Streets.widows(8, 1);
    Checks.due("all eight", x.empty(7), 255);
    x.change(0, 5, 1);
    Checks.due("who is away needn't be told", x.empty(7), 254);
    for (int i = 1; i < 8; i++) {
      x.change(i, 5, 1);
    }
    Checks.due("all are away", x.empty(20), 0);
    x.change(7, 5, 0);
    Checks.due("the last alone", x.empty(20), 128);
    Checks.due("no day", x.empty(0), 0);
    x.go(1);
    Checks.due("a register to be sold", x.empty(6), Checks.NONE);
    Checks.due("not within 5 days", x.empty(5), 0);
    x.go(6);
    Checks.due("sold: as now", x.empty(6), 0);
  }

  private static void coverGroups() {
    EmptyBarrow x = new EmptyBarrow();
    Checks.due("nobody needed", x.cover(0), 0);
    Checks.due("nobody there", x.cover(4095), Checks.NONE);
    for (int i = 0; i < 8; i++) {
      x.resident(Checks.RESIDENT, 0);
      x.change(i, 2, 1 << i);
    }
    Checks.due("all but one good", x.cover(511), Checks.NONE);
    Checks.due("all eight", x.cover(255), 255);
    x.change(7, 2, 4095);
    Checks.due("the last alone", x.cover(4095), 128);
    Checks.due("one of two: the least", x.cover(1), 1);
    Checks.due("one rather than two", x.cover(3), 128);
    Checks.due("nobody needed", x.cover(0), 0);
    x.change(0, 2, 4095);
    Checks.due("the first of two", x.cover(4095), 1);
    x.change(0, 2, 2047);
    x.change(7, 2, 2048);
    x.change(3, 2, 2048);
    Checks.due("two, the least of several", x.cover(4095), 9);
  }

  private static void standingsOfNothing() {
    for (int bits : new int[] {8, 16, 32}) {
      EmptyBarrow x = Streets.roomy();
      x.sheet(0, bits, 0);
      Checks.due("no number: all goods", x.fits(0, 0), 4095);
      Checks.due("no number: all kinds", x.kinds(0, 2), 127);
      x.sheet(0, bits, 1);
      Checks.due("now 0", x.fits(0, 0), 4095);
      Checks.due("now 0", x.kinds(0, 0), 127);
      x.write(0, 0, 1);
      Checks.due("now 1", x.fits(0, 0), 0);
      Checks.due("now 1", x.kinds(0, 0), 0);
    }
  }

  /** The 40th number is that behind 39 days, on the last of which place 2 is cried. */
  private static void standingsOfForty() {
    EmptyBarrow x = Streets.widows(1, 1 << 2);
    x.sheet(0, 8, 40);
    for (int i = 0; i < 40; i++) {
      x.write(0, i, (i + 3) / 6);
    }
    Checks.due("as it will be", x.fits(0, 0), 4);
    // A lad comes as often until he stood ten times.
    x.change(0, 3, 99);
    Checks.due("as it will be", x.kinds(0, 0) >> 4 & 1, 1);
    x.write(0, 39, 6);
    Checks.due("the last number isn't so", x.fits(0, 0), 0);
    Checks.due("the last number isn't so", x.kinds(0, 0) >> 4 & 1, 0);
    x.write(0, 39, -1);
    Checks.due("the last is any", x.fits(0, 0), 4);
    x.write(0, 0, 1);
    Checks.due("the first isn't so", x.fits(0, 0), 0);
  }

  private static void standingsAny() {
    EmptyBarrow x = Streets.widows(1, 1);
    int[][] told = {{8, -1, 4095}, {8, 255, 4095}, {8, 511, 4095}, {8, -2, 0}, {8, 254, 0},
        {16, -1, 4095}, {16, 65535, 4095}, {16, 255, 0}, {16, -2, 0}, {32, -1, 4095},
        {32, 65535, 0}, {32, -2, 0}, {32, Integer.MIN_VALUE, 0}, {8, 256, 4095}, {16, 65536, 4095},
        {32, 65536, 0}, {8, Integer.MIN_VALUE, 4095}};
    for (int[] t : told) {
      Checks.tell(x, 1, t[0], t[1]);
      Checks.due(t[1] + " in " + t[0] + " bits, goods", x.fits(1, 0), t[2]);
      Checks.due(t[1] + " in " + t[0] + " bits, kinds", x.kinds(1, 0), t[2] == 0 ? 0 : 127);
    }
    x.change(0, 4, 9999);
    Checks.tell(x, 1, 16, 9999, 9999);
    Checks.due("held at 9999", x.fits(1, 0), 4095);
    Checks.due("held at 9999", x.kinds(1, 0), 127);
    x.change(0, 4, 128);
    Checks.tell(x, 1, 8, 128);
    Checks.due("8 bits tell no 128", x.fits(1, 0), 0);
    x.change(0, 4, 127);
    Checks.tell(x, 1, 8, 127);
    Checks.due("but 127", x.fits(1, 0), 4095);
  }

  private static void standingsNow() {
    EmptyBarrow x = Streets.withOne(Checks.BOY, 0, 4095, 50);
    // Who wants just another good is tempted by 0 on the first day, and comes for it on the 7th.
    Checks.tell(x, 0, 8, 0, -1, -1, -1, -1, -1, -1, 1);
    Checks.due("only for that", x.fits(0, 0), 4095 - 63);
    Checks.tell(x, 0, 8, 0, -1, -1, -1, -1, -1, -1, 2);
    Checks.due("for that and the one", x.fits(0, 0), 63);
    Checks.due("nothing changes", x.of(0, 2), 4095);
    Checks.tell(x, 0, 8, 0, 1, 1);
    Checks.due("came for 0, not for 1", x.fits(0, 0), 1);
    Checks.tell(x, 0, 8, 0, 0, 0);
    Checks.due("came for neither", x.fits(0, 0), 4095 - 3);
  }

  private static void standingsOfWhoIsAway() {
    EmptyBarrow x = Streets.widows(2, 1);
    x.change(1, 5, 1);
    Checks.tell(x, 0, 8, 0, 0, 0, 0, 0, 0, 0, 0);
    Checks.due("away: never stands", x.fits(0, 1), 4095);
    Checks.due("away: never stands", x.kinds(0, 1), 127);
    Checks.due("the other one does", x.fits(0, 0), 4095 - 63);
  }

  /** By how far off and of what hope it is, each kind comes or doesn't on the first day. */
  private static void standingsOfEachKind() {
    int[][] streets = {
        // door, hope, kinds that come: loud is 4
        {0, 99, 127}, {1, 99, 127 - 32}, {3, 49, 127 - 32}, {4, 49, 127 - 32 - 16 - 8},
        {4, 50, 127 - 32 - 8}, {5, 50, 2 + 4 + 64}, {6, 50, 2 + 4 + 64}, {7, 50, 4 + 64},
        {8, 50, 4 + 64}, {9, 50, 64}, {15, 20, 64}, {15, 19, 0}, {0, 40, 127}, {0, 39, 127 - 8},
        {0, 20, 127 - 8}, {0, 19, 2 + 16}, {0, 10, 2 + 16}, {0, 9, 16}, {0, 0, 16}};
    for (int[] s : streets) {
      EmptyBarrow x = Streets.withOne(Checks.COOK, s[0], 1, s[1]);
      Checks.tell(x, 0, 8, 0, 1);
      Checks.tell(x, 1, 8, 0, 0);
      String told = "door " + s[0] + ", hope " + s[1];
      Checks.due("who comes, " + told, x.kinds(0, 0), s[2]);
      Checks.due("who doesn't, " + told, x.kinds(1, 0), 127 - s[2]);
      Checks.due("nothing changes", x.of(0, 0), Checks.COOK);
    }
  }

  private static void hawkOnceAndTwentyTimes() {
    EmptyBarrow x = Streets.widows(1, 4095);
    EmptyBarrow y = Streets.widows(1, 4095);
    x.hawk(20);
    for (int i = 0; i < 20; i++) {
      y.hawk(1);
    }
    Checks.due("20 days", x.now(0), 20);
    for (int i = 0; i < 6; i++) {
      Checks.due("list", x.listed(i), y.listed(i));
    }
    Checks.due("loud", x.crier(2), y.crier(2));
    Checks.due("z", x.count(6), y.count(6));
    Checks.due("gold", x.now(1), y.now(1));
    Checks.due("she came each day", x.of(0, 4), 20);
    EmptyBarrow z = Streets.widows(1, 4095);
    z.go(1);
    z.hawk(1);
    Checks.due("place of the day alone", z.listed(0), 0);
    Checks.due("place of the day", z.listed(1), 2);
  }

  private static void oddsOfEachCount() {
    long[] above = {0, 1, 1, 1, 1, 5, 1, 7, 2, 3, 5, 11, 1};
    long[] below = {1, 12, 6, 4, 3, 12, 2, 12, 3, 4, 6, 12, 1};
    for (int wanted = 0; wanted <= 12; wanted++) {
      EmptyBarrow x = new EmptyBarrow();
      x.resident(Checks.RESIDENT, 0);
      x.change(0, 2, (1 << wanted) - 1);
      long up = 1;
      long down = 1;
      for (int n = 0; n <= 17; n++) {
        Checks.due(wanted + " wanted, " + n + " drawn: above", x.odds(0, n, 0), up);
        Checks.due(wanted + " wanted, " + n + " drawn: below", x.odds(0, n, 1), down);
        up *= above[wanted];
        down *= below[wanted];
      }
      Checks.due("18 drawn", x.odds(0, 18, 0), Checks.BEYOND);
    }
  }
}
