/** Promises 12 to 18: days, and what will be. */
public final class DaysTest {
  public static void main(String[] args) {
    crierGoesOn();
    comersOfEachKind();
    othersMend();
    temptedOnes();
    limitsOfHopeAndStood();
    sales();
    goFindings();
    lastDay();
    mostGold();
    now();
    aheadAndGold();
    stands();
    wants();
    despair();
    Checks.finish("DaysTest");
  }

  private static void crierGoesOn() {
    EmptyBarrow x = new EmptyBarrow();
    x.resident(Checks.DEAF, 2);
    x.resident(Checks.DEAF, 0);
    x.change(0, 2, 1);
    x.change(1, 2, 1);
    x.go(1);
    Checks.due("he goes before he cries", x.of(0, 4), 1);
    Checks.due("gone from there", x.of(1, 4), 0);
    x.set(0, 15);
    x.go(1);
    Checks.due("behind 15 comes 0", x.crier(0), 1);
    x.set(1, 5);
    x.go(3);
    Checks.due("pace 5", x.crier(0), 0);
  }

  private static void comersOfEachKind() {
    EmptyBarrow x = Checks.standing();
    for (int kind = 0; kind < 7; kind++) {
      x.resident(kind, 0);
      x.change(kind, 2, 1);
    }
    x.resident(Checks.RESIDENT, 0);
    x.change(7, 2, 1);
    x.change(7, 5, 1);
    Checks.due("go", x.go(1), 0);
    int[] hope = {42, 45, 34, 45, 49, 41, 40, 50};
    for (int i = 0; i < 8; i++) {
      Checks.due("stood of " + i, x.of(i, 4), i == 7 ? 0 : 1);
      Checks.due("hope of " + i, x.of(i, 3), hope[i]);
    }
    Checks.due("register", x.register(0), 7);
  }

  private static void othersMend() {
    EmptyBarrow x = Checks.standing();
    for (int kind = 0; kind < 7; kind++) {
      x.resident(kind, 0);
      x.change(kind, 2, 2);
    }
    x.resident(Checks.RESIDENT, 0);
    x.change(7, 5, 1);
    x.go(1);
    int[] hope = {52, 53, 52, 53, 56, 50, 55, 50};
    for (int i = 0; i < 8; i++) {
      Checks.due("mended hope of " + i, x.of(i, 3), hope[i]);
      Checks.due("stood of " + i, x.of(i, 4), 0);
    }
    EmptyBarrow y = Checks.standing();
    y.resident(Checks.RESIDENT, 0);
    y.change(0, 2, 1);
    y.change(0, 3, 19);
    y.resident(Checks.RESIDENT, 5);
    y.change(1, 2, 1);
    y.go(1);
    Checks.due("wants it, hopes too little", y.of(0, 3), 21);
    Checks.due("wants it, doesn't hear", y.of(1, 3), 52);
    Checks.due("none came", y.now(5), 0);
  }

  private static void temptedOnes() {
    EmptyBarrow x = Checks.standing();
    x.resident(Checks.RESIDENT, 0);
    x.change(0, 3, 79);
    x.resident(Checks.RESIDENT, 0);
    x.change(1, 3, 80);
    x.resident(Checks.RESIDENT, 5);
    x.change(2, 3, 90);
    x.resident(Checks.WIDOW, 0);
    x.resident(Checks.BOY, 0);
    x.resident(Checks.LAD, 0);
    x.resident(Checks.COOK, 0);
    x.change(6, 3, 99);
    x.resident(Checks.BOY, 0);
    x.change(7, 5, 1);
    x.go(1);
    int[] first = {0, 1, 0, 1, 1, 1, 0, 0};
    for (int i = 0; i < 8; i++) {
      Checks.due("wants of " + i, x.of(i, 2), first[i]);
    }
    Checks.due("a tempted one doesn't come yet", x.now(4), 0);
    Checks.due("a tempted one mends", x.of(1, 3), 82);
    x.cry(1, 11);
    x.go(1);
    int[] second = {2048, 2049, 0, 1, 1, 2049, 0, 0};
    for (int i = 0; i < 8; i++) {
      Checks.due("wants then of " + i, x.of(i, 2), second[i]);
    }
  }

  private static void limitsOfHopeAndStood() {
    EmptyBarrow x = Checks.standing();
    x.resident(Checks.WIDOW, 0);
    x.change(0, 2, 1);
    x.change(0, 3, 0);
    x.change(0, 4, 9999);
    x.resident(Checks.MAID, 0);
    x.change(1, 2, 2);
    x.change(1, 3, 97);
    x.go(1);
    Checks.due("hope is 0 at least", x.of(0, 3), 0);
    Checks.due("stood is 9999 at most", x.of(0, 4), 9999);
    Checks.due("the register counts all the same", x.register(0), 1);
    Checks.due("hope is 99 at most", x.of(1, 3), 99);
  }

  private static void sales() {
    EmptyBarrow x = Checks.standing();
    for (int i = 0; i < 3; i++) {
      x.resident(Checks.WIDOW, 0);
    }
    x.change(0, 2, 1);
    x.change(1, 2, 1);
    x.change(2, 2, 32);
    Checks.due("six days", x.go(6), 0);
    Checks.due("register", x.now(5), 3);
    // The 7th day cries place 0 again: four for good 0, one for good 5.
    Checks.due("the 7th day sells", x.go(1), 4 + 2 * 5);
    Checks.due("all 0 then", x.now(5), 0);
    Checks.due("day", x.now(0), 7);
    // Days 7 to 13 cry places 1, 2, 3, 4, 5, 0, 1.
    Checks.due("the 14th, too", x.go(7), 14 + 2 + 2 * 5);
    EmptyBarrow y = new EmptyBarrow();
    Checks.due("nothing to sell", y.go(60), 0);
  }

  private static void goFindings() {
    EmptyBarrow x = new EmptyBarrow();
    Checks.due("go 0", x.go(0), Checks.BEYOND);
    Checks.due("go 61", x.go(61), Checks.BEYOND);
    Checks.due("go -1", x.go(-1), Checks.BEYOND);
    Checks.due("no day went by", x.now(0), 0);
    x.go(60);
    Checks.due("60 days", x.now(0), 60);
  }

  /** More calls than are promised for one object: the document names the edge all the same. */
  private static void lastDay() {
    EmptyBarrow x = new EmptyBarrow();
    for (int i = 0; i < 1666; i++) {
      x.go(60);
    }
    Checks.due("day", x.now(0), 99960);
    Checks.due("above the last day", x.go(40), Checks.STATE);
    Checks.due("beyond comes first", x.go(61), Checks.BEYOND);
    x.image();
    Checks.due("to the last day", x.go(39), 0);
    Checks.due("day", x.now(0), 99999);
    x.undo();
    Checks.due("nearly", x.go(38), 0);
    Checks.due("hawk above it", x.hawk(2), Checks.STATE);
    Checks.due("hawk beyond", x.hawk(21), Checks.BEYOND);
    Checks.due("no draw", x.count(6), 1);
    Checks.due("hawk to it", x.hawk(1), 0);
    Checks.due("day", x.count(0), 99999);
    Checks.due("go", x.go(1), Checks.STATE);
    Checks.due("hawk", x.hawk(1), Checks.STATE);
    Checks.due("findings", x.status(4), 4);
    Checks.due("ahead still ends", x.gold(100), 0);
  }

  /** Eight widows at his door come every day, for 46 a week. */
  private static void mostGold() {
    EmptyBarrow x = Checks.standing();
    for (int i = 0; i < 8; i++) {
      x.resident(Checks.WIDOW, 0);
      x.change(i, 2, 4095);
    }
    Checks.due("a week", x.go(7), 46);
    for (int i = 0; i < 253; i++) {
      x.go(60);
    }
    Checks.due("day", x.now(0), 15187);
    Checks.due("gold", x.now(1), 46 * 2169);
    Checks.due("2173 weeks", x.go(24), 46 * 2173);
    Checks.due("gold ahead is 99999 at most", x.gold(7), 99999);
    Checks.due("loudFor just that", x.loudFor(99999, 7), 0);
    Checks.due("stood is 9999 at most", x.of(7, 4), 9999);
    Checks.due("gold is 99999 at most", x.go(7), 99999);
    Checks.due("it can't be more", x.empty(20), 0);
    Checks.due("it stays", x.go(7), 99999);
  }

  private static void now() {
    EmptyBarrow x = Checks.standing();
    x.resident(Checks.WIDOW, 0);
    x.resident(Checks.WIDOW, 0);
    x.resident(Checks.BOY, 15);
    x.change(0, 2, 5);
    x.change(1, 2, 1);
    x.change(2, 2, 2048);
    x.change(2, 5, 1);
    x.change(2, 4, 7);
    x.go(3);
    Checks.due("day", x.now(0), 3);
    Checks.due("gold", x.now(1), 0);
    Checks.due("wanted", x.now(2), 2048 | 5);
    Checks.due("hope of all", x.now(3), 54 + 61 + 50);
    Checks.due("stood of all", x.now(4), 3 + 7);
    Checks.due("all of the register", x.now(5), 3);
    Checks.due("goods in it", x.now(6), 5);
    Checks.due("it would fetch", x.now(7), 2 + 2 * 5);
    x.go(4);
    Checks.due("gold", x.now(1), 4 + 2 * 5);
    Checks.due("it would fetch", x.now(7), 0);
    Checks.due("now 8", x.now(8), Checks.BEYOND);
    Checks.due("now -1", x.now(-1), Checks.BEYOND);
  }

  private static void aheadAndGold() {
    EmptyBarrow x = Checks.standing();
    x.resident(Checks.WIDOW, 0);
    x.change(0, 3, 45);
    Checks.due("wants now", x.ahead(0, 2, 0), 0);
    Checks.due("wants", x.ahead(0, 2, 1), 1);
    Checks.due("hears now", x.ahead(0, 6, 0), 3);
    Checks.due("hears", x.ahead(0, 6, 1), 4);
    Checks.due("hope", x.ahead(0, 3, 2), 57);
    Checks.due("stood", x.ahead(0, 4, 7), 1);
    Checks.due("stood", x.ahead(0, 4, 100), 16);
    Checks.due("gold now", x.gold(0), 0);
    Checks.due("gold", x.gold(6), 0);
    Checks.due("gold", x.gold(7), 6);
    // 16 stands in 14 weeks: two of them fall in one week only where a week cries place 0 twice.
    Checks.due("gold", x.gold(100), 14 * 5 + 15 + 1);
    Checks.due("nothing changes", x.of(0, 2), 0);
    Checks.due("nothing changes", x.now(0), 0);
    int[][] beyond = {{1, 2, 0}, {-1, 2, 0}, {0, 0, 0}, {0, 1, 0}, {0, 5, 0}, {0, 7, 0}, {0, 8, 0},
        {0, 9, 0}, {0, 10, 0}, {0, -1, 0}, {0, 2, 101}, {0, 2, -1}};
    for (int[] b : beyond) {
      String call = "ahead " + b[0] + " " + b[1] + " " + b[2];
      Checks.due(call, x.ahead(b[0], b[1], b[2]), Checks.BEYOND);
    }
    Checks.due("gold 101", x.gold(101), Checks.BEYOND);
    Checks.due("gold -1", x.gold(-1), Checks.BEYOND);
  }

  private static void stands() {
    EmptyBarrow x = Checks.standing();
    x.resident(Checks.WIDOW, 0);
    x.change(0, 2, 1);
    x.change(0, 4, 3);
    Checks.due("already", x.stands(0, 0), 0);
    Checks.due("already", x.stands(0, 3), 0);
    Checks.due("behind a day", x.stands(0, 4), 1);
    Checks.due("behind seven", x.stands(0, 5), 7);
    // Days 0, 6, .. 198 are 34.
    Checks.due("behind 199", x.stands(0, 37), 199);
    Checks.due("not in 200", x.stands(0, 38), Checks.NONE);
    x.go(4);
    Checks.due("behind 201 is too late", x.stands(0, 38), Checks.NONE);
    x.go(1);
    Checks.due("behind 194", x.stands(0, 37), 194);
    Checks.due("the 200th counts", x.stands(0, 38), 200);
    Checks.due("not in 200", x.stands(0, 39), Checks.NONE);
    Checks.due("nothing changes", x.of(0, 4), 4);
    int[][] beyond = {{1, 0}, {-1, 0}, {0, 10000}, {0, -1}};
    for (int[] b : beyond) {
      Checks.due("stands " + b[0] + " " + b[1], x.stands(b[0], b[1]), Checks.BEYOND);
    }
  }

  private static void wants() {
    EmptyBarrow x = Checks.standing();
    x.resident(Checks.BOY, 0);
    x.change(0, 2, 2);
    Checks.due("already", x.wants(0, 1), 0);
    Checks.due("first", x.wants(0, 0), 1);
    Checks.due("fifth", x.wants(0, 4), 5);
    Checks.due("odd", x.wants(0, 3), Checks.NONE);
    Checks.due("never cried", x.wants(0, 6), Checks.NONE);
    Checks.due("nothing changes", x.of(0, 2), 2);
    x.resident(Checks.RESIDENT, 0);
    x.change(1, 3, 0);
    // Hope 80 is there behind 40 days; day 40 cries place 4.
    Checks.due("behind 41", x.wants(1, 4), 41);
    int[][] beyond = {{2, 0}, {-1, 0}, {0, 12}, {0, -1}};
    for (int[] b : beyond) {
      Checks.due("wants " + b[0] + " " + b[1], x.wants(b[0], b[1]), Checks.BEYOND);
    }
  }

  private static void despair() {
    EmptyBarrow x = Checks.standing();
    x.resident(Checks.COOK, 0);
    x.change(0, 2, 1);
    Checks.due("already", x.despair(0, 50), 0);
    Checks.due("just that", x.despair(0, 45), 1);
    Checks.due("between", x.despair(0, 49), 1);
    Checks.due("never", x.despair(0, 44), Checks.NONE);
    Checks.due("nothing changes", x.of(0, 3), 50);
    x.resident(Checks.WIDOW, 0);
    x.change(1, 2, 63);
    Checks.due("50 days", x.despair(1, 0), 50);
    int[][] beyond = {{2, 0}, {-1, 0}, {0, 100}, {0, -1}};
    for (int[] b : beyond) {
      Checks.due("despair " + b[0] + " " + b[1], x.despair(b[0], b[1]), Checks.BEYOND);
    }
  }
}
