/** Promises 1 to 11: the street and its residents. */
public final class StreetTest {
  public static void main(String[] args) {
    newObject();
    setAndCrier();
    cryAndListed();
    resident();
    of();
    change();
    tempted();
    register();
    comers();
    Checks.finish("StreetTest");
  }

  private static void newObject() {
    EmptyBarrow x = new EmptyBarrow();
    Checks.due("door", x.crier(0), 0);
    Checks.due("pace", x.crier(1), 2);
    Checks.due("loud", x.crier(2), 4);
    for (int i = 0; i < 6; i++) {
      Checks.due("listed", x.listed(i), i);
    }
    for (int i = 0; i < 12; i++) {
      Checks.due("register", x.register(i), 0);
      Checks.due("comers", x.comers(i), 0);
    }
    for (int i = 0; i < 8; i++) {
      Checks.due("now " + i, x.now(i), 0);
      Checks.due("count " + i, x.count(i), i == 6 ? 1 : 0);
    }
    for (int i = -1; i < 7; i++) {
      Checks.due("status " + i, x.status(i), 0);
    }
    Checks.due("tape", x.wipe(), 0);
    Checks.due("nothing kept", x.tear(), 0);
    Checks.due("nothing kept", x.undo(), Checks.NONE);
    for (int i = 0; i < 4; i++) {
      Checks.due("sheet missing", x.write(i, 0, 0), Checks.MISSING);
    }
    for (int i = 0; i < 10; i++) {
      Checks.due("spot empty", x.as(i, 0), Checks.MISSING);
    }
  }

  private static void setAndCrier() {
    EmptyBarrow x = new EmptyBarrow();
    Checks.due("set door", x.set(0, 15), 0);
    Checks.due("set pace", x.set(1, 5), 2);
    Checks.due("set loud", x.set(2, 9), 4);
    Checks.due("door", x.crier(0), 15);
    Checks.due("pace", x.crier(1), 5);
    Checks.due("loud", x.crier(2), 9);
    int[][] beyond = {{0, 16}, {1, 6}, {2, 10}, {0, -1}, {1, -1}, {2, -1}, {3, 0}, {-1, 0},
        {Integer.MIN_VALUE, 0}, {0, Integer.MAX_VALUE}};
    for (int[] b : beyond) {
      Checks.due("set " + b[0] + " " + b[1], x.set(b[0], b[1]), Checks.BEYOND);
    }
    Checks.due("set door back", x.set(0, 0), 15);
    Checks.due("set pace back", x.set(1, 0), 5);
    Checks.due("set loud back", x.set(2, 0), 9);
    Checks.due("crier 3", x.crier(3), Checks.BEYOND);
    Checks.due("crier -1", x.crier(-1), Checks.BEYOND);
    Checks.due("findings", x.status(0), 12);
  }

  private static void cryAndListed() {
    EmptyBarrow x = new EmptyBarrow();
    Checks.due("cry", x.cry(5, 11), 5);
    Checks.due("cry", x.cry(5, 0), 11);
    Checks.due("cry", x.cry(0, 7), 0);
    Checks.due("listed", x.listed(5), 0);
    Checks.due("listed", x.listed(0), 7);
    Checks.due("listed", x.listed(1), 1);
    int[][] beyond = {{6, 0}, {-1, 0}, {0, 12}, {0, -1}};
    for (int[] b : beyond) {
      Checks.due("cry " + b[0] + " " + b[1], x.cry(b[0], b[1]), Checks.BEYOND);
    }
    Checks.due("listed 6", x.listed(6), Checks.BEYOND);
    Checks.due("listed -1", x.listed(-1), Checks.BEYOND);
    Checks.due("listed stays", x.listed(0), 7);
  }

  private static void resident() {
    EmptyBarrow x = new EmptyBarrow();
    int[][] beyond = {{7, 0}, {-1, 0}, {0, 16}, {0, -1}};
    for (int[] b : beyond) {
      Checks.due("resident " + b[0] + " " + b[1], x.resident(b[0], b[1]), Checks.BEYOND);
    }
    for (int i = 0; i < 8; i++) {
      Checks.due("resident", x.resident(i % 7, 2 * i), i);
    }
    Checks.due("9th", x.resident(0, 0), Checks.FULL);
    Checks.due("9th, no kind", x.resident(7, 0), Checks.BEYOND);
    Checks.due("residents", x.count(1), 8);
    int[] fresh = {3, 6, 0, 50, 0, 0};
    for (int what = 0; what < 6; what++) {
      Checks.due("fresh " + what, x.of(3, what), fresh[what]);
    }
  }

  private static void of() {
    EmptyBarrow x = new EmptyBarrow();
    x.set(2, 5);
    x.set(0, 4);
    for (int kind = 0; kind < 7; kind++) {
      x.resident(kind, 2 * kind);
      x.change(kind, 2, 4095);
    }
    int[] hears = {5, 7, 10, 3, 4, 0, 15};
    int[] trusts = {20, 10, 20, 40, 0, 20, 20};
    int[] loses = {8, 5, 16, 5, 1, 20, 10};
    int[] mends = {2, 3, 2, 3, 6, 0, 5};
    int[] far = {4, 2, 0, 2, 4, 6, 8};
    for (int i = 0; i < 7; i++) {
      Checks.due("kind", x.of(i, 0), i);
      Checks.due("door", x.of(i, 1), 2 * i);
      Checks.due("wants", x.of(i, 2), 4095);
      Checks.due("hope", x.of(i, 3), 50);
      Checks.due("stood", x.of(i, 4), 0);
      Checks.due("away", x.of(i, 5), 0);
      Checks.due("hears of " + i, x.of(i, 6), hears[i]);
      Checks.due("trusts of " + i, x.of(i, 7), trusts[i]);
      Checks.due("loses of " + i, x.of(i, 8), loses[i]);
      Checks.due("mends of " + i, x.of(i, 9), mends[i]);
      Checks.due("far of " + i, x.of(i, 10), far[i]);
    }
    x.change(4, 3, 49);
    Checks.due("widow of little hope hears", x.of(4, 6), 3);
    x.change(6, 4, 9);
    Checks.due("lad who stood 9 times trusts", x.of(6, 7), 20);
    x.change(6, 4, 10);
    Checks.due("lad who stood 10 times trusts", x.of(6, 7), 60);
    x.change(5, 2, 5);
    Checks.due("deaf one who wants two loses", x.of(5, 8), 10);
    x.set(2, 0);
    int[] quiet = {0, 2, 0, 1, 1, 0, 15};
    for (int i = 0; i < 7; i++) {
      Checks.due("hears of " + i + ", loud 0", x.of(i, 6), quiet[i]);
    }
    x.set(0, 15);
    x.change(0, 1, 0);
    Checks.due("no way round", x.of(0, 10), 15);
    int[][] beyond = {{7, 0}, {-1, 0}, {0, 11}, {0, -1}};
    for (int[] b : beyond) {
      Checks.due("of " + b[0] + " " + b[1], x.of(b[0], b[1]), Checks.BEYOND);
    }
  }

  private static void change() {
    EmptyBarrow x = new EmptyBarrow();
    x.resident(Checks.MAID, 3);
    int[] was = {1, 3, 0, 50, 0, 0};
    int[] top = {6, 15, 4095, 99, 9999, 1};
    for (int what = 0; what < 6; what++) {
      Checks.due("change " + what, x.change(0, what, top[what]), was[what]);
      Checks.due("changed " + what, x.of(0, what), top[what]);
      Checks.due("above " + what, x.change(0, what, top[what] + 1), Checks.BEYOND);
      Checks.due("below " + what, x.change(0, what, -1), Checks.BEYOND);
      Checks.due("change back " + what, x.change(0, what, 0), top[what]);
    }
    Checks.due("no such what", x.change(0, 6, 0), Checks.BEYOND);
    Checks.due("no such what", x.change(0, -1, 0), Checks.BEYOND);
    Checks.due("no such resident", x.change(1, 0, 0), Checks.BEYOND);
    Checks.due("no such resident", x.change(-1, 0, 0), Checks.BEYOND);
  }

  private static void tempted() {
    EmptyBarrow x = new EmptyBarrow();
    for (int kind = 0; kind < 7; kind++) {
      x.resident(kind, 0);
      x.change(kind, 3, 80);
    }
    int[] ten = {1, 1, 1, 0, 1, 0, 1};
    int[] nine = {1, 1, 0, 0, 1, 0, 0};
    int[] eleven = {1, 1, 0, 0, 1, 0, 1};
    for (int i = 0; i < 7; i++) {
      Checks.due("tempted " + i + " by 10", x.tempted(i, 10), ten[i]);
      Checks.due("tempted " + i + " by 9", x.tempted(i, 9), nine[i]);
      Checks.due("tempted " + i + " by 11", x.tempted(i, 11), eleven[i]);
      x.change(i, 2, 1 << 8);
      x.change(i, 3, 79);
      x.change(i, 5, 1);
    }
    int[] less = {0, 0, 1, 0, 0, 0, 1};
    for (int i = 0; i < 7; i++) {
      Checks.due("tempted " + i + ", less hope, wants", x.tempted(i, 10), less[i]);
    }
    Checks.due("by what it wants already", x.tempted(2, 8), 1);
    int[][] beyond = {{7, 0}, {-1, 0}, {0, 12}, {0, -1}};
    for (int[] b : beyond) {
      Checks.due("tempted " + b[0] + " " + b[1], x.tempted(b[0], b[1]), Checks.BEYOND);
    }
  }

  private static void register() {
    EmptyBarrow x = Checks.standing();
    x.resident(Checks.RESIDENT, 0);
    x.resident(Checks.MAID, 0);
    x.change(0, 2, 3);
    x.change(1, 2, 1);
    x.go(2);
    Checks.due("two came", x.register(0), 2);
    Checks.due("one came", x.register(1), 1);
    Checks.due("none came", x.register(2), 0);
    Checks.due("register 12", x.register(12), Checks.BEYOND);
    Checks.due("register -1", x.register(-1), Checks.BEYOND);
  }

  private static void comers() {
    EmptyBarrow x = new EmptyBarrow();
    x.set(0, 5);
    for (int i = 0; i < 8; i++) {
      x.resident(Checks.RESIDENT, 5);
      x.change(i, 2, 1 << 11);
    }
    Checks.due("all come", x.comers(11), 255);
    Checks.due("none wants it", x.comers(10), 0);
    x.change(0, 1, 9);
    x.change(1, 1, 10);
    x.change(2, 1, 1);
    x.change(3, 1, 0);
    x.change(4, 3, 20);
    x.change(5, 3, 19);
    x.change(6, 5, 1);
    x.change(7, 2, 0);
    Checks.due("those who hear, want, hope", x.comers(11), 1 | 4 | 16);
    Checks.due("where he is", x.crier(0), 5);
    Checks.due("nothing changes", x.now(5), 0);
    Checks.due("comers 12", x.comers(12), Checks.BEYOND);
    Checks.due("comers -1", x.comers(-1), Checks.BEYOND);
  }
}
