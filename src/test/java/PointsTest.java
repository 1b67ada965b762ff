/** Terms, points 1 and 2 and the draws: what wraps, what is held at a bound, what is empty or full. */
public final class PointsTest {
  public static void main(String[] args) {
    behind15Comes0();
    farHasNoWayRound();
    listByDayModulo6();
    goesBeforeHeCries();
    soldWhenDayLeaves6By7();
    saleFetches();
    registerHeldAt999();
    goldHeldAt99999();
    goldUpTo99999();
    stoodHeldAt9999();
    dayHeldAt99999();
    noResidents();
    eightResidents();
    awayOnes();
    drawsWrap();
    findingsAreTheseNumbers();
    Checks.finish("PointsTest");
  }

  private static void behind15Comes0() {
    for (int pace = 0; pace <= 5; pace++) {
      for (int door = 0; door <= 15; door++) {
        EmptyBarrow x = new EmptyBarrow();
        x.set(0, door);
        x.set(1, pace);
        x.go(1);
        int then = door + pace > 15 ? door + pace - 16 : door + pace;
        Checks.due("pace " + pace + " from " + door, x.crier(0), then);
        x.go(16);
        Checks.due("16 days come round", x.crier(0), then);
      }
    }
  }

  private static void farHasNoWayRound() {
    for (int at = 0; at <= 15; at++) {
      EmptyBarrow x = new EmptyBarrow();
      x.resident(Checks.RESIDENT, 0);
      x.set(0, at);
      for (int door = 0; door <= 15; door++) {
        x.change(0, 1, door);
        Checks.due("far from " + at + " to " + door, x.of(0, 10), at > door ? at - door : door - at);
      }
    }
    EmptyBarrow y = Streets.withOne(Checks.RESIDENT, 15, 1, 50);
    y.set(2, 9);
    Checks.due("15 is not beside 0", y.comers(0), 0);
    y.set(0, 15);
    y.change(0, 1, 0);
    Checks.due("0 is not beside 15", y.comers(0), 0);
  }

  private static void listByDayModulo6() {
    EmptyBarrow x = Streets.widows(1, 4095);
    int[] goods = {11, 3, 7, 0, 9, 5};
    for (int i = 0; i < 6; i++) {
      x.cry(i, goods[i]);
    }
    for (int day = 0; day < 20; day++) {
      x.change(0, 2, 1 << goods[day % 6]);
      int stood = x.of(0, 4);
      x.go(1);
      Checks.due("day " + day + " cries its place", x.of(0, 4), stood + 1);
    }
  }

  private static void goesBeforeHeCries() {
    EmptyBarrow x = new EmptyBarrow();
    x.set(0, 15);
    x.set(1, 1);
    x.resident(Checks.DEAF, 15);
    x.resident(Checks.DEAF, 0);
    x.change(0, 2, 1);
    x.change(1, 2, 1);
    x.go(1);
    Checks.due("gone from 15", x.of(0, 4), 0);
    Checks.due("come to 0", x.of(1, 4), 1);
  }

  /** One comes each day, all for one good: a sale is 7 and 5. */
  private static void soldWhenDayLeaves6By7() {
    EmptyBarrow x = Streets.widows(1, 1);
    for (int i = 0; i < 6; i++) {
      x.cry(i, 0);
    }
    for (int day = 0; day < 29; day++) {
      int sales = (day + 1) / 7;
      Checks.due("gold behind day " + day, x.go(1), 12 * sales);
      Checks.due("register behind day " + day, x.register(0), (day + 1) % 7);
      Checks.due("it would fetch", x.now(7), (day + 1) % 7 == 0 ? 0 : 5 + (day + 1) % 7);
      Checks.due("day", x.now(0), day + 1);
    }
  }

  private static void saleFetches() {
    EmptyBarrow x = Streets.widows(8, 4095);
    x.go(6);
    Checks.due("six goods, eight each", x.now(7), 8 + 6 * 5);
    Checks.due("six goods", x.now(6), 63);
    // The 7th day's eight come to good 0's, and are sold with the rest.
    Checks.due("the greatest, and 5 for each", x.go(1), 16 + 6 * 5);
    Checks.due("all 0", x.now(6), 0);
    EmptyBarrow y = Streets.widows(1, 0);
    y.change(0, 5, 1);
    Checks.due("nothing to sell", y.go(7), 0);
  }

  private static void registerHeldAt999() {
    int[][] edges = {{997, 998}, {998, 999}, {999, 999}};
    for (int[] e : edges) {
      EmptyBarrow x = Streets.widows(1, 1);
      Inside.register(x, 0, e[0]);
      x.go(1);
      Checks.due("register from " + e[0], x.register(0), e[1]);
      Checks.due("she stood all the same", x.of(0, 4), 1);
      Checks.due("it would fetch", x.now(7), e[1] + 5);
    }
    EmptyBarrow x = Streets.widows(8, 1);
    Inside.register(x, 0, 995);
    x.go(1);
    Checks.due("eight more than 995", x.register(0), 999);
  }

  /** 61 a week is the most that can be; 1640 weeks of it are over 99999. */
  private static EmptyBarrow richAfter(int weeks) {
    EmptyBarrow x = Streets.widows(8, 1);
    for (int i = 0; i < 6; i++) {
      x.cry(i, 0);
    }
    int days = 7 * weeks;
    for (int i = 0; i < 250 && days > 0; i++) {
      int n = Math.min(60, days);
      x.go(n);
      days -= n;
    }
    Checks.due("gold behind " + weeks + " weeks", x.now(1), Math.min(99999, 61 * weeks));
    return x;
  }

  private static void goldHeldAt99999() {
    EmptyBarrow x = richAfter(1639);
    Checks.due("not yet", x.now(1), 99979);
    Checks.due("gold ahead, a day before", x.gold(6), 99979);
    Checks.due("gold ahead", x.gold(7), 99999);
    Checks.due("gold a week further ahead", x.gold(14), 99999);
    Checks.due("not as now", x.empty(7), 255);
    Checks.due("loud enough for all of it", x.loudFor(99999, 7), 0);
    Checks.due("it would fetch more", x.go(6) + x.now(7), 99979 + 53);
    Checks.due("held", x.go(1), 99999);
    Checks.due("held again", x.go(7), 99999);
    Checks.due("as now, whoever comes", x.empty(20), 0);
    Checks.due("of all doors the least", x.startFor(60), 0);
    Checks.due("of all goods the least", x.cryFor(0, 60), 0);
  }

  /** Behind 99979 a week brings one less than there is room for, just that, and one more. */
  private static void goldUpTo99999() {
    int[] then = {99998, 99999, 99999};
    for (int more = 0; more < 3; more++) {
      EmptyBarrow x = richAfter(1639);
      // 14 standings, or one or two more, for one good: 5 for that.
      onlyFirst(x, 2 + more);
      x.go(1);
      onlyFirst(x, 2);
      Checks.due("gold, " + (14 + more) + " came", x.go(6), then[more]);
    }
  }

  private static void onlyFirst(EmptyBarrow x, int n) {
    for (int i = 0; i < 8; i++) {
      x.change(i, 5, i < n ? 0 : 1);
    }
  }

  private static void stoodHeldAt9999() {
    int[][] edges = {{9997, 9998}, {9998, 9999}, {9999, 9999}};
    for (int[] e : edges) {
      EmptyBarrow x = Streets.widows(1, 1);
      x.change(0, 4, e[0]);
      x.go(1);
      Checks.due("stood from " + e[0], x.of(0, 4), e[1]);
      Checks.due("register", x.register(0), 1);
      Checks.due("hope is less all the same", x.of(0, 3), 49);
      Checks.due("stands 9999", x.stands(0, 9999), e[1] == 9999 ? 0 : 6);
    }
  }

  private static void dayHeldAt99999() {
    EmptyBarrow x = Streets.widows(1, 4095);
    Inside.day(x, 99998);
    // 99998 and 99999 leave 3 and 4 by 7: no sale from there on.
    Checks.due("a day", x.go(1), 0);
    Checks.due("the last day", x.now(0), 99999);
    // The day stays 99999 then, whose place is 3.
    x.change(0, 2, 1 << 3);
    Checks.due("each day ahead is the last one", x.ahead(0, 4, 100), 101);
    Checks.due("and sells nothing", x.gold(100), 0);
    Checks.due("all 200", x.stands(0, 201), 200);
    Checks.due("no day more", x.stands(0, 202), Checks.NONE);
  }

  private static void noResidents() {
    EmptyBarrow x = new EmptyBarrow();
    Checks.due("go", x.go(60), 0);
    for (int what = 1; what <= 7; what++) {
      Checks.due("now " + what, x.now(what), 0);
    }
    for (int good = 0; good < 12; good++) {
      Checks.due("comers", x.comers(good), 0);
    }
    Checks.due("empty", x.empty(20), 0);
    Checks.due("cover of nothing", x.cover(0), 0);
    Checks.due("cover", x.cover(1), Checks.NONE);
    Checks.due("startFor", x.startFor(60), 0);
    Checks.due("cryFor", x.cryFor(5, 60), 0);
    Checks.due("hawk", x.hawk(20), 0);
    Checks.due("load", x.sheet(0, 8, 40) + x.load(0), 40);
  }

  private static void eightResidents() {
    EmptyBarrow x = new EmptyBarrow();
    for (int i = 0; i < 8; i++) {
      Checks.due("residents", x.count(1), i);
      Checks.due("number", x.resident(Checks.WIDOW, 15), i);
      x.change(i, 2, 1 << i);
      x.change(i, 3, 99);
      x.change(i, 4, 9999);
    }
    Checks.due("full", x.resident(Checks.WIDOW, 15), Checks.FULL);
    Checks.due("residents", x.count(1), 8);
    Checks.due("all hope", x.now(3), 8 * 99);
    Checks.due("all stood", x.now(4), 8 * 9999);
    Checks.due("all hope", x.count(4), 8 * 99);
    Checks.due("all stood", x.count(3), 8 * 9999);
    Checks.due("wanted", x.now(2), 255);
    x.set(0, 15);
    for (int i = 0; i < 8; i++) {
      Checks.due("comers for " + i, x.comers(i), 1 << i);
    }
    Checks.due("all must be there", x.cover(255), 255);
  }

  private static void awayOnes() {
    EmptyBarrow x = Streets.widows(2, 1);
    x.change(1, 5, 1);
    x.go(7);
    int[] as = {Checks.WIDOW, 0, 1, 50, 0, 1};
    for (int what = 0; what < 6; what++) {
      Checks.due("away, what " + what, x.of(1, what), as[what]);
    }
    Checks.due("gold of the other alone", x.now(1), 7);
    x.change(1, 5, 0);
    x.go(6);
    Checks.due("back again", x.of(1, 4), 1);
  }

  /** Numbers worked out apart: each draw is z * 1103515245 + 12345 in 32 bits, told by its top 24. */
  private static void drawsWrap() {
    int[][] draws = {
        // seed, z behind two draws, the good, the loud
        {0, -740551042, 0, 8},
        {1, -1770082073, 2, 2},
        {-1, 288979989, 1, 8},
        {Integer.MAX_VALUE, -1858503659, 5, 6},
        {Integer.MIN_VALUE, 1406932606, 8, 0},
        {12345, -1492899873, 6, 5},
        {-987654321, -2119783451, 2, 1},
        {7, 642666333, 1, 5},
        {-8, -1094237386, 4, 1}
    };
    for (int[] d : draws) {
      EmptyBarrow x = new EmptyBarrow();
      x.seed(d[0]);
      x.hawk(1);
      Checks.due("z behind seed " + d[0], x.count(6), d[1]);
      Checks.due("good by seed " + d[0], x.listed(0), d[2]);
      Checks.due("loud by seed " + d[0], x.crier(2), d[3]);
    }
    EmptyBarrow x = new EmptyBarrow();
    x.hawk(6);
    x.cry(0, 0);
    x.hawk(1);
    Checks.due("seven days", x.now(0), 7);
    Checks.due("place 0 again", x.listed(0), 10);
  }

  private static void findingsAreTheseNumbers() {
    int[] findings = {Checks.BEYOND, Checks.FULL, Checks.KIND, Checks.NONE, Checks.STATE,
        Checks.MISSING, Checks.SIZE};
    for (int i = 0; i < findings.length; i++) {
      Checks.due("finding " + i, findings[i], -1000001 - i);
    }
    EmptyBarrow x = new EmptyBarrow();
    Checks.due("in longs, too", x.odds(0, 0, 0), -1000001L);
    // Answers at or below a finding's number that are none.
    x.seed(-1000001);
    Checks.due("z is no finding", x.count(6), -1000001);
    Checks.due("nor here", x.seed(-1000007), -1000001);
    Checks.due("one finding", x.status(-1), 1);
  }
}
