/** Promises 33 to 39: spots and sheets. */
public final class SheetsTest {
  public static void main(String[] args) {
    hold();
    as();
    sheet();
    write();
    copy();
    copyFindings();
    load();
    judge();
    Checks.finish("SheetsTest");
  }

  private static void hold() {
    EmptyBarrow x = new EmptyBarrow();
    Checks.due("no such resident", x.hold(0, 0), Checks.BEYOND);
    x.resident(Checks.COOK, 0);
    Checks.due("hold", x.hold(0, 0), 1);
    Checks.due("hold", x.hold(9, 0), 1);
    Checks.due("spots", x.count(7), 2);
    Checks.due("hold nothing", x.hold(0, -1), 1);
    Checks.due("hold nothing again", x.hold(0, -1), 1);
    Checks.due("spots", x.count(7), 1);
    int[][] beyond = {{10, 0}, {-1, 0}, {0, 1}, {0, -2}, {10, -1}};
    for (int[] b : beyond) {
      Checks.due("hold " + b[0] + " " + b[1], x.hold(b[0], b[1]), Checks.BEYOND);
    }
    Checks.due("spots", x.count(7), 1);
  }

  private static void as() {
    EmptyBarrow x = new EmptyBarrow();
    String[] under = {"0", "01", "02", "013", "0134", "05", "026"};
    for (int kind = 0; kind < 7; kind++) {
      x.resident(kind, 0);
      x.hold(kind + 1, kind);
    }
    for (int own = 0; own < 7; own++) {
      for (int kind = 0; kind < 7; kind++) {
        int want = under[own].indexOf('0' + kind) >= 0 ? own : Checks.KIND;
        Checks.due(own + " as " + kind, x.as(own + 1, kind), want);
      }
    }
    Checks.due("nothing held", x.as(0, 0), Checks.MISSING);
    Checks.due("nothing held", x.as(9, 6), Checks.MISSING);
    int[][] beyond = {{10, 0}, {-1, 0}, {0, 7}, {0, -1}};
    for (int[] b : beyond) {
      Checks.due("as " + b[0] + " " + b[1], x.as(b[0], b[1]), Checks.BEYOND);
    }
    x.change(4, 0, Checks.BOY);
    Checks.due("no widow any more", x.as(5, 3), Checks.KIND);
    Checks.due("a boy", x.as(5, 2), 4);
    x.hold(5, -1);
    Checks.due("nothing held", x.as(5, 2), Checks.MISSING);
  }

  private static void sheet() {
    EmptyBarrow x = new EmptyBarrow();
    Checks.due("8 bits", x.sheet(0, 8, 40), 40);
    Checks.due("16 bits", x.sheet(1, 16, 0), 0);
    Checks.due("32 bits", x.sheet(3, 32, 1), 1);
    Checks.due("empty, not missing", x.write(1, 0, 0), Checks.BEYOND);
    Checks.due("no such sheet", x.sheet(4, 8, -1), Checks.BEYOND);
    Checks.due("no such sheet", x.sheet(-1, 8, 0), Checks.BEYOND);
    Checks.due("other bits", x.sheet(0, 7, -1), Checks.BEYOND);
    Checks.due("other bits", x.sheet(0, 64, 0), Checks.BEYOND);
    Checks.due("other bits", x.sheet(0, -8, 0), Checks.BEYOND);
    Checks.due("below 0", x.sheet(0, 8, -1), Checks.SIZE);
    Checks.due("below 0, bits 0", x.sheet(0, 0, -1), Checks.SIZE);
    Checks.due("above 40", x.sheet(0, 8, 41), Checks.BEYOND);
    Checks.due("above 40", x.sheet(0, 32, Integer.MAX_VALUE), Checks.BEYOND);
    Checks.due("it stays", x.write(0, 39, 1), 1);
    Checks.due("missing", x.sheet(0, 0, 40), 0);
    Checks.due("missing", x.write(0, 0, 1), Checks.MISSING);
    Checks.tell(x, 2, 8, 5, 6);
    Checks.due("not the register", x.judge(2), 1);
    x.sheet(2, 8, 2);
    Checks.due("all 0", x.judge(2), 0);
    Checks.due("size findings", x.status(6), 2);
  }

  private static void write() {
    EmptyBarrow x = new EmptyBarrow();
    for (int i = 0; i < 4; i++) {
      x.resident(Checks.RESIDENT, 0);
    }
    int[] bits = {8, 16, 32};
    int[][] loaded = {{127, 0x34, 0, 1}, {127, 0x234, 0, 1}, {127}};
    for (int b = 0; b < 3; b++) {
      for (int i = 0; i < 4; i++) {
        x.change(i, 2, 9);
      }
      Checks.tell(x, b, bits[b], 127, b == 2 ? 0x10000234 : 0x234, 0x10000, 0x10001);
      Checks.due("lowest bits", x.load(b), loaded[b].length);
      for (int i = 0; i < 4; i++) {
        int want = i < loaded[b].length ? loaded[b][i] : 9;
        Checks.due("number " + i + " of " + bits[b] + " bits", x.of(i, 2), want);
      }
    }
    Checks.tell(x, 0, 8, 128);
    Checks.due("128 in 8 bits is below 0", x.load(0), 0);
    Checks.tell(x, 0, 16, 128);
    Checks.due("128 in 16 bits", x.load(0), 1);
    Checks.due("no such sheet", x.write(4, 0, 0), Checks.BEYOND);
    Checks.due("no such sheet", x.write(-1, 0, 0), Checks.BEYOND);
    Checks.due("missing comes first", x.write(3, 50, 0), Checks.MISSING);
    Checks.due("no such number", x.write(0, 1, 0), Checks.BEYOND);
    Checks.due("no such number", x.write(0, -1, 0), Checks.BEYOND);
  }

  private static EmptyBarrow eight() {
    EmptyBarrow x = new EmptyBarrow();
    for (int i = 0; i < 8; i++) {
      x.resident(Checks.RESIDENT, 0);
    }
    return x;
  }

  private static void dueNumbers(EmptyBarrow x, int s, int... numbers) {
    Checks.due("loaded", x.load(s), numbers.length);
    for (int i = 0; i < numbers.length; i++) {
      Checks.due("number " + i, x.of(i, 2), numbers[i]);
    }
  }

  private static void copy() {
    EmptyBarrow x = eight();
    Checks.tell(x, 0, 8, 1, 2, 3, 4, 5);
    Checks.tell(x, 1, 8, 11, 12, 13);
    Checks.due("copy", x.copy(0, 1, 1, 0, 2), 2);
    dueNumbers(x, 1, 2, 3, 13);
    Checks.due("copy on", x.copy(0, 0, 0, 1, 4), 4);
    dueNumbers(x, 0, 1, 1, 2, 3, 4);
    Checks.due("copy back", x.copy(0, 2, 0, 0, 3), 3);
    dueNumbers(x, 0, 2, 3, 4, 3, 4);
    Checks.due("copy all", x.copy(1, 0, 0, 2, 3), 3);
    dueNumbers(x, 0, 2, 3, 2, 3, 13);
    Checks.due("none", x.copy(0, 5, 1, 3, 0), 0);
    dueNumbers(x, 1, 2, 3, 13);
  }

  private static void copyFindings() {
    EmptyBarrow x = eight();
    Checks.tell(x, 0, 8, 1, 2, 3, 4, 5);
    Checks.tell(x, 1, 8, 11, 12, 13);
    x.sheet(2, 16, 5);
    int most = Integer.MAX_VALUE;
    int least = Integer.MIN_VALUE;
    int[][] calls = {
        {4, 0, 0, 0, 0, Checks.BEYOND}, {0, 0, 4, 0, 0, Checks.BEYOND},
        {-1, 0, 3, 0, 0, Checks.BEYOND}, {3, 0, -1, 0, 0, Checks.BEYOND},
        {3, 0, 0, 0, -1, Checks.MISSING}, {0, 0, 3, 0, -1, Checks.MISSING},
        {3, 0, 3, 0, 0, Checks.MISSING}, {2, 0, 3, 0, 0, Checks.MISSING},
        {0, 0, 2, 0, -1, Checks.KIND}, {2, 9, 0, 9, 9, Checks.KIND},
        {0, -1, 1, 0, 1, Checks.BEYOND}, {0, 0, 1, -1, 1, Checks.BEYOND},
        {0, 0, 1, 0, -1, Checks.BEYOND}, {0, 0, 1, 0, 4, Checks.BEYOND},
        {1, 0, 0, 0, 4, Checks.BEYOND}, {0, 5, 1, 0, 1, Checks.BEYOND},
        {0, 0, 1, 3, 1, Checks.BEYOND}, {0, 6, 1, 0, 0, Checks.BEYOND},
        {0, 0, 1, 4, 0, Checks.BEYOND}, {0, most, 1, 0, 1, Checks.BEYOND},
        {0, 1, 1, 0, most, Checks.BEYOND}, {0, most, 1, most, most, Checks.BEYOND},
        {0, least, 1, least, least, Checks.BEYOND}};
    for (int[] c : calls) {
      String call = "copy " + c[0] + " " + c[1] + " " + c[2] + " " + c[3] + " " + c[4];
      Checks.due(call, x.copy(c[0], c[1], c[2], c[3], c[4]), c[5]);
    }
    dueNumbers(x, 0, 1, 2, 3, 4, 5);
    dueNumbers(x, 1, 11, 12, 13);
  }

  private static void load() {
    EmptyBarrow x = new EmptyBarrow();
    Checks.due("no such sheet", x.load(4), Checks.BEYOND);
    Checks.due("no such sheet", x.load(-1), Checks.BEYOND);
    Checks.due("missing", x.load(0), Checks.MISSING);
    Checks.tell(x, 0, 32, 7, 4095, 4096, 5);
    Checks.due("no residents", x.load(0), 0);
    x.resident(Checks.COOK, 0);
    Checks.due("one resident", x.load(0), 1);
    Checks.due("wants", x.of(0, 2), 7);
    for (int i = 1; i < 4; i++) {
      x.resident(Checks.COOK, 0);
    }
    Checks.due("ends at 4096", x.load(0), 2);
    Checks.due("wants", x.of(1, 2), 4095);
    Checks.due("stays", x.of(2, 2), 0);
    Checks.due("stays", x.of(3, 2), 0);
    x.write(0, 0, -1);
    Checks.due("ends at -1", x.load(0), 0);
    Checks.tell(x, 0, 8, 1, 2);
    Checks.due("the sheet ends", x.load(0), 2);
    x.sheet(0, 8, 0);
    Checks.due("empty", x.load(0), 0);
    x.sheet(0, 16, 40);
    Checks.due("as many as residents", x.load(0), 4);
    Checks.due("wants none", x.of(1, 2), 0);
  }

  private static void judge() {
    EmptyBarrow x = Checks.standing();
    Checks.due("no such sheet", x.judge(4), Checks.BEYOND);
    Checks.due("no such sheet", x.judge(-1), Checks.BEYOND);
    Checks.due("missing", x.judge(1), Checks.MISSING);
    x.resident(Checks.WIDOW, 0);
    x.resident(Checks.WIDOW, 0);
    x.change(0, 2, 3);
    x.change(1, 2, 2);
    x.go(2);
    Checks.tell(x, 1, 8, 1, 2, 0);
    Checks.due("so", x.judge(1), 0);
    x.write(1, 0, 2);
    Checks.due("the first isn't", x.judge(1), 1);
    x.write(1, 0, 1);
    x.write(1, 2, -1);
    Checks.due("the third isn't", x.judge(1), 3);
    x.sheet(1, 8, 0);
    Checks.due("nothing told", x.judge(1), 0);
    Checks.tell(x, 1, 32, 1, 2, 0, 0, 0, 0, 0, 0, 0, 0, 0, 0);
    Checks.due("all goods", x.judge(1), 0);
    Checks.tell(x, 1, 32, 1, 2, 0, 0, 0, 0, 0, 0, 0, 0, 0, 0, 0);
    Checks.due("no 13th good", x.judge(1), 13);
    Checks.due("nothing changes", x.register(1), 2);
  }
}
