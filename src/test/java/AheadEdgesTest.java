/** Promises 12 to 18: the last day that counts and the first that doesn't, and no day at all. */
public final class AheadEdgesTest {
  public static void main(String[] args) {
    goneDays();
    sixtiethDay();
    hundredthDay();
    aheadOfNoDay();
    aheadIsWhatGoBrings();
    standsOnThe200th();
    wantsOnThe200th();
    despairOnThe200th();
    alreadySo();
    standsWithNobodyComing();
    now();
    Checks.finish("AheadEdgesTest");
  }

  /** A widow who comes each day for one good, which is sold for 12 a week. */
  private static EmptyBarrow daily() {
    EmptyBarrow x = Streets.widows(1, 1);
    for (int i = 0; i < 6; i++) {
      x.cry(i, 0);
    }
    return x;
  }

  private static void goneDays() {
    for (int n : new int[] {1, 2, 59, 60}) {
      EmptyBarrow x = daily();
      Checks.due("gold behind " + n, x.go(n), 12 * (n / 7));
      Checks.due("day", x.now(0), n);
      Checks.due("stood", x.of(0, 4), n);
    }
  }

  /** From day 3 on the 60th day is one of a sale. */
  private static void sixtiethDay() {
    EmptyBarrow x = daily();
    x.go(3);
    Checks.due("59 days", x.gold(59), 12 * 8);
    Checks.due("60 days", x.gold(60), 12 * 9);
    Checks.due("loud for 59", x.loudFor(12 * 9, 59), Checks.NONE);
    Checks.due("loud for 60", x.loudFor(12 * 9, 60), 0);
    Checks.due("go 60", x.go(60), 12 * 9);
  }

  /** From day 5 on the 100th day is one of a sale. */
  private static void hundredthDay() {
    EmptyBarrow x = daily();
    x.go(5);
    Checks.due("99 days", x.gold(99), 12 * 14);
    Checks.due("100 days", x.gold(100), 12 * 15);
    Checks.due("stood behind 99", x.ahead(0, 4, 99), 104);
    Checks.due("stood behind 100", x.ahead(0, 4, 100), 105);
    Checks.due("hope behind 45", x.ahead(0, 3, 45), 0);
    Checks.due("hope behind 44", x.ahead(0, 3, 44), 1);
    Checks.due("hope behind 100", x.ahead(0, 3, 100), 0);
    Checks.due("no day went by", x.now(0), 5);
  }

  private static void aheadOfNoDay() {
    EmptyBarrow x = Streets.busy();
    for (int i = 0; i < 8; i++) {
      for (int what : new int[] {2, 3, 4, 6}) {
        Checks.due("of " + i + " " + what, x.ahead(i, what, 0), x.of(i, what));
      }
    }
    Checks.due("gold", x.gold(0), x.now(1));
  }

  private static void aheadIsWhatGoBrings() {
    for (int n : new int[] {1, 2, 6, 7, 30, 59, 60, 99, 100}) {
      EmptyBarrow x = Streets.busy();
      int[] told = new int[33];
      int k = 0;
      for (int i = 0; i < 8; i++) {
        for (int what : new int[] {2, 3, 4, 6}) {
          told[k++] = x.ahead(i, what, n);
        }
      }
      told[k] = x.gold(n);
      x.go(Math.min(60, n));
      if (n > 60) {
        x.go(n - 60);
      }
      k = 0;
      for (int i = 0; i < 8; i++) {
        for (int what : new int[] {2, 3, 4, 6}) {
          Checks.due("of " + i + " " + what + " behind " + n, told[k++], x.of(i, what));
        }
      }
      Checks.due("gold behind " + n, told[k], x.now(1));
    }
  }

  private static void standsOnThe200th() {
    EmptyBarrow x = daily();
    Checks.due("behind 1", x.stands(0, 1), 1);
    Checks.due("behind 199", x.stands(0, 199), 199);
    Checks.due("behind 200", x.stands(0, 200), 200);
    Checks.due("behind 201", x.stands(0, 201), Checks.NONE);
    x.go(1);
    Checks.due("behind 200, a day later", x.stands(0, 201), 200);
    x.change(0, 4, 9799);
    Checks.due("9999 behind 200", x.stands(0, 9999), 200);
    x.change(0, 4, 9798);
    Checks.due("9999 behind 201", x.stands(0, 9999), Checks.NONE);
  }

  /** A maid whose hope comes near 80 slowly: two standings take 10 in six days, the others mend 12. */
  private static void wantsOnThe200th() {
    EmptyBarrow x = Streets.withOne(Checks.MAID, 3, 16 + 32, 1);
    int[] goods = {10, 11, 10, 4, 4, 7};
    for (int i = 0; i < 6; i++) {
      x.cry(i, goods[i]);
    }
    Checks.due("behind 201", x.wants(0, 10), Checks.NONE);
    x.go(1);
    Checks.due("behind 200", x.wants(0, 10), 200);
    Checks.due("not behind 100", x.ahead(0, 2, 100) >> 10 & 1, 0);
    x.go(60);
    x.go(60);
    x.go(60);
    x.go(19);
    Checks.due("behind one", x.wants(0, 10), 1);
    Checks.due("not yet", x.of(0, 2) >> 10 & 1, 0);
    x.go(1);
    Checks.due("now", x.wants(0, 10), 0);
    Checks.due("it does", x.of(0, 2) >> 10 & 1, 1);
  }

  /** The same way up to 80, where she is tempted by all that is cried, and comes too often. */
  private static void despairOnThe200th() {
    EmptyBarrow x = Streets.withOne(Checks.MAID, 0, 4 + 32, 21);
    int[] goods = {10, 5, 1, 1, 2, 3};
    for (int i = 0; i < 6; i++) {
      x.cry(i, goods[i]);
    }
    Checks.due("behind 201", x.despair(0, 12), Checks.NONE);
    x.go(1);
    Checks.due("behind 200", x.despair(0, 12), 200);
    Checks.due("behind 200", x.despair(0, 8), 200);
    Checks.due("never within 200", x.despair(0, 7), Checks.NONE);
    Checks.due("sooner", x.despair(0, 13) < 200 ? 1 : 0, 1);
  }

  private static void alreadySo() {
    EmptyBarrow x = Streets.busy();
    for (int i = 0; i < 8; i++) {
      Checks.due("stands 0", x.stands(i, 0), 0);
      Checks.due("stands as it does", x.stands(i, x.of(i, 4)), 0);
      Checks.due("despair of 99", x.despair(i, 99), 0);
      Checks.due("despair as it is", x.despair(i, x.of(i, 3)), 0);
      Checks.due("wants", x.wants(i, 0), 0);
    }
    EmptyBarrow y = Streets.withOne(Checks.COOK, 0, 1, 50);
    Checks.due("one less than it has", y.despair(0, 49), 1);
    Checks.due("just what it has then", y.despair(0, 45), 1);
    Checks.due("one less than that", y.despair(0, 44), Checks.NONE);
  }

  private static void standsWithNobodyComing() {
    EmptyBarrow x = daily();
    x.change(0, 5, 1);
    Checks.due("away", x.stands(0, 1), Checks.NONE);
    Checks.due("away", x.despair(0, 49), Checks.NONE);
    Checks.due("away", x.wants(0, 1), Checks.NONE);
    Checks.due("already", x.stands(0, 0), 0);
    Checks.due("already", x.despair(0, 50), 0);
    Checks.due("already", x.wants(0, 0), 0);
  }

  private static void now() {
    EmptyBarrow x = Streets.widows(3, 1 << 11);
    x.change(0, 2, 1);
    x.change(2, 5, 1);
    x.cry(1, 11);
    Checks.due("the first and the last good", x.now(2), 1 | 1 << 11);
    Checks.due("none came yet", x.now(6), 0);
    Checks.due("it fetches nothing", x.now(7), 0);
    x.go(1);
    Checks.due("good 0", x.now(6), 1);
    Checks.due("one of one good", x.now(7), 6);
    x.go(1);
    Checks.due("goods 0 and 11", x.now(6), 1 | 1 << 11);
    Checks.due("one each of two", x.now(7), 11);
    Checks.due("all", x.now(5), 2);
    x.change(2, 5, 0);
    x.go(4);
    x.cry(0, 11);
    Checks.due("day 6 sells three of 11 as well", x.go(1), 3 + 10);
  }
}
