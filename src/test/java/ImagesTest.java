/** Promises 40 to 44: images, counts, findings. */
public final class ImagesTest {
  public static void main(String[] args) {
    imageAndUndo();
    allComesBack();
    tapeAndSheetsStay();
    tear();
    count();
    status();
    Checks.finish("ImagesTest");
  }

  private static void imageAndUndo() {
    EmptyBarrow x = new EmptyBarrow();
    Checks.due("nothing kept", x.undo(), Checks.NONE);
    x.go(5);
    Checks.due("image", x.image(), 1);
    x.go(3);
    Checks.due("undo", x.undo(), 5);
    Checks.due("day", x.now(0), 5);
    x.go(4);
    Checks.due("it stays kept", x.undo(), 5);
    x.go(2);
    Checks.due("image", x.image(), 1);
    x.go(1);
    Checks.due("the latest", x.undo(), 7);
    Checks.due("no other below it", x.undo(), 7);
  }

  private static void allComesBack() {
    EmptyBarrow x = Checks.standing();
    x.resident(Checks.WIDOW, 0);
    x.resident(Checks.COOK, 3);
    x.change(0, 2, 4095);
    x.change(1, 5, 1);
    x.hold(4, 1);
    x.seed(77);
    x.cry(1, 9);
    x.go(10);
    x.image();
    int[] before = tellAll(x);
    x.resident(Checks.LAD, 7);
    int[] other = {0, 9, 4095, 7, 12, 1};
    for (int what = 1; what < 6; what++) {
      x.change(2, what, other[what]);
    }
    for (int what = 0; what < 6; what++) {
      x.change(0, what, what == 0 ? 2 : 1);
      x.change(1, what, what == 5 ? 0 : 2);
    }
    x.hold(4, 2);
    x.hold(5, 0);
    x.set(0, 9);
    x.set(1, 4);
    x.set(2, 1);
    x.hawk(20);
    x.cry(1, 2);
    Checks.due("undo", x.undo(), 10);
    int[] behind = tellAll(x);
    for (int i = 0; i < before.length; i++) {
      Checks.due("what " + i, behind[i], before[i]);
    }
    Checks.due("a new one is as at first", x.resident(Checks.BOY, 1), 2);
    int[] fresh = {2, 1, 0, 50, 0, 0};
    for (int what = 0; what < 6; what++) {
      Checks.due("of the new one " + what, x.of(2, what), fresh[what]);
    }
  }

  private static int[] tellAll(EmptyBarrow x) {
    int[] all = new int[70];
    int n = 0;
    for (int i = 0; i < 3; i++) {
      all[n++] = x.crier(i);
    }
    for (int i = 0; i < 6; i++) {
      all[n++] = x.listed(i);
    }
    for (int i = 0; i < 12; i++) {
      all[n++] = x.register(i);
    }
    for (int i = 0; i < 8; i++) {
      all[n++] = x.now(i);
      all[n++] = x.count(i);
    }
    for (int r = 0; r < 2; r++) {
      for (int what = 0; what < 11; what++) {
        all[n++] = x.of(r, what);
      }
    }
    for (int i = 0; i < 10; i++) {
      all[n++] = x.as(i, 0);
    }
    return all;
  }

  private static void tapeAndSheetsStay() {
    EmptyBarrow x = new EmptyBarrow();
    x.resident(Checks.BOY, 0);
    Checks.feed(x, "cry");
    Checks.tell(x, 0, 8, 1);
    x.image();
    Checks.feed(x, " 0 5");
    x.write(0, 0, 6);
    x.sheet(1, 8, 3);
    x.undo();
    Checks.due("the tape stays", x.count(5), 7);
    Checks.due("text", x.text(), 1);
    Checks.due("the sheet stays", x.load(0), 1);
    Checks.due("wants", x.of(0, 2), 6);
    Checks.due("the other sheet stays", x.write(1, 2, 0), 1);
  }

  private static void tear() {
    EmptyBarrow x = new EmptyBarrow();
    Checks.due("nothing kept", x.tear(), 0);
    x.image();
    x.image();
    Checks.due("tear", x.tear(), 1);
    Checks.due("nothing kept", x.tear(), 0);
    Checks.due("nothing kept", x.undo(), Checks.NONE);
  }

  private static void count() {
    EmptyBarrow x = Checks.standing();
    x.resident(Checks.WIDOW, 0);
    x.resident(Checks.RESIDENT, 9);
    x.change(0, 2, 1);
    x.go(7);
    x.feed(0, 3);
    x.seed(-9);
    x.hold(0, 0);
    x.hold(9, 0);
    x.hold(3, 1);
    int[] want = {7, 2, 7, 2, 78 + 64, 3, -9, 3};
    for (int what = 0; what < 8; what++) {
      Checks.due("count " + what, x.count(what), want[what]);
    }
    Checks.due("count 8", x.count(8), Checks.BEYOND);
    Checks.due("count -1", x.count(-1), Checks.BEYOND);
  }

  private static void status() {
    EmptyBarrow x = new EmptyBarrow();
    x.crier(3);
    x.resident(Checks.COOK, 0);
    x.image();
    for (int i = 0; i < 30; i++) {
      x.feed(0, 4);
    }
    x.feed(0, 1);
    x.hold(0, 0);
    x.as(0, 2);
    x.as(0, 6);
    x.stands(0, 9);
    x.cover(1);
    x.cover(2);
    x.load(0);
    x.sheet(0, 8, -1);
    int[] want = {1, 1, 2, 3, 0, 1, 1};
    for (int i = 0; i < 7; i++) {
      Checks.due("status " + i, x.status(i), want[i]);
    }
    Checks.due("all", x.status(-1), 9);
    Checks.due("status 7", x.status(7), Checks.BEYOND);
    Checks.due("counted", x.status(0), 2);
    Checks.due("status -2", x.status(-2), Checks.BEYOND);
    Checks.due("counted", x.status(0), 3);
    x.undo();
    Checks.due("undo takes none back", x.status(-1), 11);
    x.text();
    Checks.due("a fault is no finding", x.status(-1), 11);
    x.odds(9, 0, 0);
    Checks.due("in longs, too", x.status(0), 4);
  }
}
