/** Terms, the block on kinds: each kind's rules on both sides of where they change. */
public final class KindEdgesTest {
  private static final int[] KINDS = {0, 1, 2, 3, 4, 5, 6};
  private static final int[][] HEARS = {
      {0, 1, 2, 3, 4, 5, 6, 7, 8, 9},
      {2, 3, 4, 5, 6, 7, 8, 9, 10, 11},
      {0, 2, 4, 6, 8, 10, 12, 14, 16, 18},
      {1, 1, 2, 2, 3, 3, 4, 4, 5, 5},
      {2, 2, 3, 3, 4, 4, 5, 5, 6, 6},
      {0, 0, 0, 0, 0, 0, 0, 0, 0, 0},
      {15, 15, 15, 15, 15, 15, 15, 15, 15, 15}};
  private static final int[] TRUSTS = {20, 10, 20, 40, 0, 20, 20};
  private static final int[] LOSES = {8, 5, 16, 5, 1, 9, 10};
  private static final int[] MENDS = {2, 3, 2, 3, 6, 0, 5};

  public static void main(String[] args) {
    asAtFirst();
    hearsByLoud();
    widowHearsByHope();
    heardAsFarAsThis();
    heardOnADay();
    trustsOnBothSides();
    ladTrustsByStood();
    losesNoMoreThanThereIs();
    deafLosesByWants();
    mendsNoMoreThan99();
    temptedByHope();
    temptedByGood();
    widowTemptedByWants();
    temptedBeforeMending();
    temptedOnlyByWhatIsHeard();
    wantedButNotTrusted();
    Checks.finish("KindEdgesTest");
  }

  private static void asAtFirst() {
    for (int kind : KINDS) {
      EmptyBarrow x = new EmptyBarrow();
      x.resident(kind, 15);
      int[] want = {kind, 15, 0, 50, 0, 0, HEARS[kind][4], TRUSTS[kind], kind == 5 ? 8 : LOSES[kind],
          MENDS[kind], 15};
      for (int what = 0; what <= 10; what++) {
        Checks.due("kind " + kind + " at first, what " + what, x.of(0, what), want[what]);
      }
    }
  }

  private static void hearsByLoud() {
    for (int kind : KINDS) {
      for (int loud = 0; loud <= 9; loud++) {
        EmptyBarrow x = Streets.standing(loud);
        x.resident(kind, 0);
        Checks.due("kind " + kind + " hears loud " + loud, x.of(0, 6), HEARS[kind][loud]);
      }
    }
  }

  private static void widowHearsByHope() {
    for (int loud = 0; loud <= 9; loud++) {
      EmptyBarrow x = Streets.standing(loud);
      x.resident(Checks.WIDOW, 0);
      int asCook = HEARS[3][loud];
      int[][] hopes = {{0, asCook}, {49, asCook}, {50, asCook + 1}, {99, asCook + 1}};
      for (int[] h : hopes) {
        x.change(0, 3, h[0]);
        Checks.due("widow of hope " + h[0] + " hears loud " + loud, x.of(0, 6), h[1]);
      }
    }
  }

  /** From either end of the street: as far as it hears it comes, a door further it doesn't. */
  private static void heardAsFarAsThis() {
    for (int kind : KINDS) {
      for (int loud = 0; loud <= 9; loud++) {
        EmptyBarrow x = Streets.standing(loud);
        x.resident(kind, 0);
        x.change(0, 2, 1 << 11);
        for (int far = 0; far <= 15; far++) {
          int comes = far <= HEARS[kind][loud] ? 1 : 0;
          String told = "kind " + kind + " comes for loud " + loud + " over " + far;
          x.set(0, 0);
          x.change(0, 1, far);
          Checks.due(told, x.comers(11), comes);
          x.set(0, 15);
          x.change(0, 1, 15 - far);
          Checks.due(told + ", other end", x.comers(11), comes);
        }
      }
    }
  }

  private static void heardOnADay() {
    for (int kind : KINDS) {
      int edge = HEARS[kind][3];
      for (int far = edge; far <= Math.min(15, edge + 1); far++) {
        EmptyBarrow x = Streets.withOne(kind, far, 1, 50);
        x.set(2, 3);
        x.go(1);
        int came = far == edge ? 1 : 0;
        Checks.due("kind " + kind + " stood, over " + far, x.of(0, 4), came);
        Checks.due("register, kind " + kind + " over " + far, x.register(0), came);
      }
    }
  }

  private static void trustsOnBothSides() {
    for (int kind : KINDS) {
      for (int less = 0; less <= Math.min(1, TRUSTS[kind]); less++) {
        int hope = TRUSTS[kind] - less;
        EmptyBarrow x = Streets.withOne(kind, 0, 1, hope);
        String told = "kind " + kind + " of hope " + hope;
        Checks.due(told + " comes", x.comers(0), 1 - less);
        x.go(1);
        Checks.due(told + " stood", x.of(0, 4), 1 - less);
        int then = less == 1 ? hope + MENDS[kind] : Math.max(0, hope - LOSES[kind]);
        Checks.due(told + " has then", x.of(0, 3), then);
      }
    }
  }

  private static void ladTrustsByStood() {
    int[][] edges = {{9, 19, 0}, {9, 20, 1}, {10, 59, 0}, {10, 60, 1}, {9999, 59, 0},
        {9999, 60, 1}};
    for (int[] e : edges) {
      EmptyBarrow x = Streets.withOne(Checks.LAD, 15, 1, e[1]);
      x.change(0, 4, e[0]);
      String told = "lad who stood " + e[0] + " times, of hope " + e[1];
      Checks.due(told + " trusts", x.of(0, 7), e[0] < 10 ? 20 : 60);
      Checks.due(told + " comes", x.comers(0), e[2]);
      x.go(1);
      Checks.due(told + " has then", x.of(0, 3), e[2] == 1 ? e[1] - 10 : e[1] + 5);
    }
    // The tenth standing itself still needs but 20.
    EmptyBarrow x = Streets.withOne(Checks.LAD, 0, 1, 20);
    x.change(0, 4, 9);
    x.go(1);
    Checks.due("the tenth time", x.of(0, 4), 10);
    Checks.due("trusts then", x.of(0, 7), 60);
  }

  /** Only a widow comes with less hope than she would lose. */
  private static void losesNoMoreThanThereIs() {
    int[][] widow = {{0, 0}, {1, 0}, {2, 1}, {99, 98}};
    for (int[] w : widow) {
      EmptyBarrow x = Streets.withOne(Checks.WIDOW, 0, 1, w[0]);
      x.go(1);
      Checks.due("widow of hope " + w[0] + " stood", x.of(0, 4), 1);
      Checks.due("widow of hope " + w[0] + " has then", x.of(0, 3), w[1]);
    }
  }

  private static void deafLosesByWants() {
    EmptyBarrow x = Streets.withOne(Checks.DEAF, 0, 0, 20);
    for (int n = 0; n <= 12; n++) {
      x.change(0, 2, (1 << n) - 1);
      Checks.due("deaf one who wants " + n + " loses", x.of(0, 8), 8 + n);
    }
    x.go(1);
    Checks.due("just all of it", x.of(0, 3), 0);
    EmptyBarrow y = Streets.withOne(Checks.DEAF, 0, 4095, 21);
    y.go(1);
    Checks.due("all but one", y.of(0, 3), 1);
  }

  private static void mendsNoMoreThan99() {
    for (int kind : KINDS) {
      int top = 99 - MENDS[kind];
      int[][] hopes = {{0, MENDS[kind]}, {top - 1, 98}, {top, 99}, {Math.min(99, top + 1), 99},
          {98, Math.min(99, 98 + MENDS[kind])}, {99, 99}};
      for (int[] h : hopes) {
        EmptyBarrow x = Streets.withOne(kind, 0, 2, h[0]);
        x.go(1);
        Checks.due("kind " + kind + " of hope " + h[0] + " has then", x.of(0, 3), h[1]);
      }
    }
  }

  private static void temptedByHope() {
    for (int kind : KINDS) {
      for (int hope : new int[] {0, 79, 80, 99}) {
        EmptyBarrow x = Streets.withOne(kind, 0, 2, hope);
        boolean isByHope = kind == Checks.RESIDENT || kind == Checks.MAID;
        int even = isByHope ? hope / 80 : kind == Checks.BOY || kind == Checks.LAD ? 1 : 0;
        int odd = isByHope ? hope / 80 : 0;
        String told = "kind " + kind + " of hope " + hope + " tempted";
        Checks.due(told + " by 0", x.tempted(0, 0), even);
        Checks.due(told + " by 9", x.tempted(0, 9), odd);
        x.cry(1, 9);
        x.cry(0, 9);
        x.go(1);
        Checks.due(told + " by 9 on a day", x.of(0, 2), odd == 1 ? 2 | 1 << 9 : 2);
      }
    }
  }

  private static void temptedByGood() {
    for (int good = 0; good < 12; good++) {
      for (int kind : KINDS) {
        EmptyBarrow x = Streets.withOne(kind, 0, 0, 50);
        int isEven = good % 2 == 0 ? 1 : 0;
        int lad = good == 11 ? 1 : isEven;
        int[] want = {0, 0, isEven, 0, 1, 0, lad};
        Checks.due("kind " + kind + " tempted by " + good, x.tempted(0, good), want[kind]);
        x.cry(0, good);
        x.go(1);
        Checks.due("kind " + kind + " wants then", x.of(0, 2), want[kind] << good);
        Checks.due("nobody stood", x.of(0, 4), 0);
      }
    }
  }

  private static void widowTemptedByWants() {
    for (int good = 0; good < 12; good++) {
      EmptyBarrow x = Streets.withOne(Checks.WIDOW, 0, 1 << good, 99);
      int other = good == 0 ? 1 : 0;
      Checks.due("widow who wants " + good, x.tempted(0, other), 0);
      x.cry(0, other);
      x.go(1);
      Checks.due("she wants then", x.of(0, 2), 1 << good);
    }
  }

  /** Hope is mended only then: who has 80 by that isn't tempted on the same day. */
  private static void temptedBeforeMending() {
    int[][] edges = {{0, 78, 80}, {0, 79, 81}, {1, 77, 80}, {1, 79, 82}};
    for (int[] e : edges) {
      EmptyBarrow x = Streets.withOne(e[0], 0, 0, e[1]);
      x.go(1);
      Checks.due("hope", x.of(0, 3), e[2]);
      Checks.due("not tempted yet", x.of(0, 2), 0);
      x.go(1);
      Checks.due("tempted on the next", x.of(0, 2), 2);
    }
    // A widow of hope 49 hears 3 far on that day, 4 far from then on.
    EmptyBarrow x = Streets.withOne(Checks.WIDOW, 4, 0, 49);
    x.go(1);
    Checks.due("not heard", x.of(0, 2), 0);
    x.go(1);
    Checks.due("heard", x.of(0, 2), 2);
  }

  private static void temptedOnlyByWhatIsHeard() {
    for (int kind : new int[] {0, 1, 2, 4}) {
      int edge = HEARS[kind][4];
      for (int far = edge; far <= edge + 1; far++) {
        EmptyBarrow x = Streets.withOne(kind, far, 0, 80);
        x.go(1);
        Checks.due("kind " + kind + " wants, over " + far, x.of(0, 2), far == edge ? 1 : 0);
      }
    }
    EmptyBarrow x = Streets.withOne(Checks.BOY, 0, 0, 80);
    x.change(0, 5, 1);
    x.go(60);
    Checks.due("away: wants", x.of(0, 2), 0);
    Checks.due("away: hope", x.of(0, 3), 80);
    Checks.due("away: comes", x.comers(0), 0);
  }

  private static void wantedButNotTrusted() {
    EmptyBarrow x = Streets.withOne(Checks.COOK, 0, 1, 39);
    x.go(1);
    Checks.due("wants as before", x.of(0, 2), 1);
    Checks.due("mended", x.of(0, 3), 42);
    Checks.due("none came", x.now(5), 0);
    x.go(6);
    Checks.due("comes behind six days more", x.of(0, 4), 1);
  }
}
