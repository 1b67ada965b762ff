/** Promises 1 and 40 to 44: nothing kept, kept twice, torn; counts and findings at their ends. */
public final class ImageEdgesTest {
  public static void main(String[] args) {
    newOnesAreApart();
    imageOfANewObject();
    undoTwice();
    imageTwice();
    tearAndImage();
    undoOfResidents();
    undoOfSpotsAndDraws();
    undoKeepsFindings();
    countOfEmptyAndFull();
    statusCountsItself();
    statusAtItsEnds();
    Checks.finish("ImageEdgesTest");
  }

  private static void newOnesAreApart() {
    EmptyBarrow x = new EmptyBarrow();
    EmptyBarrow y = new EmptyBarrow();
    x.set(0, 5);
    x.cry(0, 5);
    x.resident(Checks.BOY, 5);
    x.sheet(0, 8, 5);
    x.feed(5, 1);
    x.image();
    x.crier(5);
    Checks.due("door", y.crier(0), 0);
    Checks.due("list", y.listed(0), 0);
    Checks.due("residents", y.count(1), 0);
    Checks.due("tape", y.count(5), 0);
    Checks.due("findings", y.status(-1), 0);
    Checks.due("sheet", y.load(0), Checks.MISSING);
    Checks.due("image", y.undo(), Checks.NONE);
  }

  private static void imageOfANewObject() {
    EmptyBarrow x = new EmptyBarrow();
    Checks.due("image", x.image(), 1);
    for (int i = 0; i < 8; i++) {
      x.resident(Checks.WIDOW, i);
      x.change(i, 2, 4095);
    }
    x.hawk(20);
    x.hold(0, 7);
    Checks.due("undo", x.undo(), 0);
    Twins.same("undo to a new object", x, untouchedWithImage());
  }

  private static EmptyBarrow untouchedWithImage() {
    EmptyBarrow y = new EmptyBarrow();
    y.image();
    return y;
  }

  private static void undoTwice() {
    EmptyBarrow x = Streets.busy();
    int day = x.undo();
    Checks.due("the day that was kept", day, 4);
    Checks.due("again", x.undo(), 4);
    x.go(60);
    Checks.due("again", x.undo(), 4);
    Checks.due("day", x.now(0), 4);
    EmptyBarrow y = Streets.busy();
    y.undo();
    Twins.same("undo thrice", x, y);
  }

  /** What is changed behind an undo doesn't come into what is kept. */
  private static void imageTwice() {
    EmptyBarrow x = Streets.roomy();
    x.image();
    x.undo();
    x.change(0, 3, 7);
    x.set(0, 9);
    x.cry(0, 9);
    x.hold(0, 0);
    x.undo();
    Checks.due("hope", x.of(0, 3), 50);
    Checks.due("door", x.crier(0), 0);
    Checks.due("list", x.listed(0), 0);
    Checks.due("spots", x.count(7), 0);
    x.go(3);
    Checks.due("the latest", x.image(), 1);
    x.go(3);
    Checks.due("the latest", x.undo(), 3);
  }

  private static void tearAndImage() {
    EmptyBarrow x = new EmptyBarrow();
    Checks.due("nothing", x.tear(), 0);
    Checks.due("image", x.image(), 1);
    Checks.due("image", x.image(), 1);
    Checks.due("something", x.tear(), 1);
    Checks.due("nothing more", x.tear(), 0);
    Checks.due("nothing", x.undo(), Checks.NONE);
    x.go(2);
    Checks.due("image", x.image(), 1);
    x.go(2);
    Checks.due("undo", x.undo(), 2);
    Checks.due("it stayed kept", x.tear(), 1);
    Checks.due("tear leaves the street", x.now(0), 2);
  }

  private static void undoOfResidents() {
    EmptyBarrow x = Streets.roomy();
    x.image();
    for (int i = 3; i < 8; i++) {
      x.resident(Checks.BOY, 9);
      x.change(i, 2, 4095);
      x.change(i, 3, 1);
      x.change(i, 4, 9);
      x.change(i, 5, 1);
    }
    Checks.due("full", x.resident(0, 0), Checks.FULL);
    x.undo();
    Checks.due("three", x.count(1), 3);
    Checks.due("no 4th", x.of(3, 0), Checks.BEYOND);
    Checks.due("room again", x.resident(Checks.MAID, 1), 3);
    int[] fresh = {1, 1, 0, 50, 0, 0};
    for (int what = 0; what < 6; what++) {
      Checks.due("of the new one " + what, x.of(3, what), fresh[what]);
    }
    EmptyBarrow y = Streets.roomy();
    y.image();
    y.change(0, 0, Checks.DEAF);
    y.undo();
    Checks.due("kind", y.of(0, 0), 0);
  }

  private static void undoOfSpotsAndDraws() {
    EmptyBarrow x = Streets.roomy();
    x.hold(0, 2);
    x.seed(5);
    x.image();
    x.resident(Checks.BOY, 9);
    x.hold(0, 3);
    x.hold(9, 3);
    x.hawk(1);
    x.undo();
    Checks.due("spot 0", x.as(0, 0), 2);
    Checks.due("spot 9", x.as(9, 0), Checks.MISSING);
    Checks.due("spots", x.count(7), 1);
    Checks.due("z", x.count(6), 5);
  }

  private static void undoKeepsFindings() {
    EmptyBarrow x = new EmptyBarrow();
    x.image();
    x.crier(3);
    x.load(0);
    x.undo();
    Checks.due("all", x.status(-1), 2);
    Checks.due("beyond", x.status(0), 1);
    Checks.due("missing", x.status(5), 1);
    x.tear();
    x.undo();
    Checks.due("none", x.status(3), 1);
    Checks.due("all", x.status(-1), 3);
  }

  private static void countOfEmptyAndFull() {
    EmptyBarrow x = new EmptyBarrow();
    int[] empty = {0, 0, 0, 0, 0, 0, 1, 0};
    for (int what = 0; what < 8; what++) {
      Checks.due("new, count " + what, x.count(what), empty[what]);
    }
    for (int i = 0; i < 8; i++) {
      x.resident(Checks.WIDOW, 15);
      x.change(i, 3, 99);
      x.change(i, 4, 9999);
    }
    for (int spot = 0; spot < 10; spot++) {
      x.hold(spot, 7);
    }
    Checks.feed(x, " ".repeat(120));
    x.seed(Integer.MIN_VALUE);
    int[] full = {0, 8, 0, 79992, 792, 120, Integer.MIN_VALUE, 10};
    for (int what = 0; what < 8; what++) {
      Checks.due("full, count " + what, x.count(what), full[what]);
    }
  }

  private static void statusCountsItself() {
    EmptyBarrow x = new EmptyBarrow();
    Checks.due("none", x.status(-1), 0);
    Checks.due("another one", x.status(7), Checks.BEYOND);
    Checks.due("counted from then on", x.status(-1), 1);
    Checks.due("another one", x.status(-2), Checks.BEYOND);
    Checks.due("counted from then on", x.status(0), 2);
    Checks.due("another one", x.status(Integer.MIN_VALUE), Checks.BEYOND);
    Checks.due("another one", x.status(Integer.MAX_VALUE), Checks.BEYOND);
    Checks.due("counted from then on", x.status(-1), 4);
    for (int which = 1; which < 7; which++) {
      Checks.due("no other", x.status(which), 0);
    }
  }

  /** One of each finding, in the order of their numbers, each in its own place. */
  private static void statusAtItsEnds() {
    EmptyBarrow x = Streets.busy();
    x.sheet(3, 0, 0);
    Inside.day(x, 99999);
    int before = x.status(-1);
    int[] answers = {x.crier(3), x.resident(0, 0), x.as(3, 2), x.cover(2048), x.go(1), x.load(3),
        x.sheet(0, 8, -1)};
    for (int i = 0; i < 7; i++) {
      Checks.due("finding " + i, answers[i], -1000001 - i);
      Checks.due("status " + i, x.status(i), 1);
    }
    Checks.due("all", x.status(-1), before + 7);
  }
}
