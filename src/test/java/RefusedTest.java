import java.util.function.Supplier;

/**
 * The findings but BEYOND, of each call that may answer them; and where two could be told, the one
 * that is asked first. Each is counted in its place, and changes nothing but status().
 */
public final class RefusedTest {
  private static final Supplier<EmptyBarrow> BUSY = Streets::busy;

  public static void main(String[] args) {
    full();
    kind();
    none();
    state();
    missing();
    size();
    beyondFirst();
    missingBeforeBeyond();
    copyInItsOrder();
    Checks.finish("RefusedTest");
  }

  private static void full() {
    Twins.refused(BUSY, Checks.FULL, "resident", 0, 0);
    Twins.refused(BUSY, Checks.FULL, "resident", 6, 15);
    for (int n = 1; n <= 4; n++) {
      int bytes = 121 - n;
      Supplier<EmptyBarrow> nearly = () -> tapeOf(bytes);
      Twins.refused(nearly, Checks.FULL, "feed", 0x20202020, n);
      Checks.due("feed that just fills", tapeOf(120 - n).feed(0, n), 120);
    }
  }

  private static EmptyBarrow tapeOf(int bytes) {
    EmptyBarrow x = new EmptyBarrow();
    Checks.feed(x, " ".repeat(bytes));
    return x;
  }

  private static void kind() {
    Twins.refused(BUSY, Checks.KIND, "as", 3, 2);
    Twins.refused(BUSY, Checks.KIND, "as", 3, 6);
    Twins.refused(BUSY, Checks.KIND, "copy", 0, 0, 2, 0, 1);
    Twins.refused(BUSY, Checks.KIND, "copy", 2, 0, 0, 0, 0);
    Supplier<EmptyBarrow> wide = () -> {
      EmptyBarrow x = Streets.busy();
      x.sheet(3, 32, 5);
      return x;
    };
    Twins.refused(wide, Checks.KIND, "copy", 2, 0, 3, 0, 1);
    Twins.refused(wide, Checks.KIND, "copy", 3, 0, 0, 0, 1);
  }

  private static void none() {
    Twins.refused(BUSY, Checks.NONE, "stands", 7, 1);
    Twins.refused(BUSY, Checks.NONE, "wants", 5, 11);
    Twins.refused(BUSY, Checks.NONE, "despair", 7, 98);
    Twins.refused(BUSY, Checks.NONE, "loudFor", 99999, 60);
    Twins.refused(BUSY, Checks.NONE, "empty", 20);
    Twins.refused(BUSY, Checks.NONE, "cover", 1 << 11);
    Twins.refused(EmptyBarrow::new, Checks.NONE, "cover", 1);
    Twins.refused(EmptyBarrow::new, Checks.NONE, "loudFor", 1, 60);
    Twins.refused(EmptyBarrow::new, Checks.NONE, "undo");
    Supplier<EmptyBarrow> torn = () -> {
      EmptyBarrow x = Streets.busy();
      x.tear();
      return x;
    };
    Twins.refused(torn, Checks.NONE, "undo");
  }

  /** No 512 calls get there, so the day is put where the sentence has its edge. */
  private static EmptyBarrow onDay(int day) {
    EmptyBarrow x = Streets.busy();
    Inside.day(x, day);
    return x;
  }

  private static void state() {
    Twins.refused(() -> onDay(99999), Checks.STATE, "go", 1);
    Twins.refused(() -> onDay(99940), Checks.STATE, "go", 60);
    Twins.refused(() -> onDay(99999), Checks.STATE, "hawk", 1);
    Twins.refused(() -> onDay(99980), Checks.STATE, "hawk", 20);
    EmptyBarrow x = onDay(99939);
    x.go(60);
    Checks.due("go to the last day", x.now(0), 99999);
    EmptyBarrow y = onDay(99979);
    y.hawk(20);
    Checks.due("hawk to the last day", y.now(0), 99999);
    Twins.refused(() -> onDay(99999), Checks.BEYOND, "go", 61);
    Twins.refused(() -> onDay(99999), Checks.BEYOND, "go", 0);
    Twins.refused(() -> onDay(99999), Checks.BEYOND, "hawk", 21);
    Twins.refused(() -> onDay(99999), Checks.BEYOND, "hawk", 0);
  }

  private static void missing() {
    Twins.refused(BUSY, Checks.MISSING, "fits", 3, 0);
    Twins.refused(BUSY, Checks.MISSING, "kinds", 3, 0);
    Twins.refused(BUSY, Checks.MISSING, "as", 1, 0);
    Twins.refused(BUSY, Checks.MISSING, "write", 3, 0, 0);
    Twins.refused(BUSY, Checks.MISSING, "copy", 0, 0, 3, 0, 0);
    Twins.refused(BUSY, Checks.MISSING, "copy", 3, 0, 0, 0, 0);
    Twins.refused(BUSY, Checks.MISSING, "copy", 3, 0, 3, 0, 0);
    Twins.refused(BUSY, Checks.MISSING, "load", 3);
    Twins.refused(BUSY, Checks.MISSING, "judge", 3);
    Supplier<EmptyBarrow> gone = () -> {
      EmptyBarrow x = Streets.busy();
      x.sheet(0, 0, 5);
      x.hold(3, -1);
      return x;
    };
    Twins.refused(gone, Checks.MISSING, "load", 0);
    Twins.refused(gone, Checks.MISSING, "as", 3, 4);
  }

  private static void size() {
    for (int bits : new int[] {0, 8, 16, 32}) {
      Twins.refused(BUSY, Checks.SIZE, "sheet", 0, bits, -1);
      Twins.refused(BUSY, Checks.SIZE, "sheet", 3, bits, Integer.MIN_VALUE);
    }
  }

  /** Each would answer another finding, were it not BEYOND before that. */
  private static void beyondFirst() {
    Twins.refused(BUSY, Checks.BEYOND, "resident", 7, 0);
    Twins.refused(BUSY, Checks.BEYOND, "resident", 0, 16);
    Twins.refused(BUSY, Checks.BEYOND, "resident", -1, -1);
    Twins.refused(BUSY, Checks.BEYOND, "stands", 0, 10000);
    Twins.refused(BUSY, Checks.BEYOND, "wants", 5, 12);
    Twins.refused(BUSY, Checks.BEYOND, "despair", 7, -1);
    Twins.refused(BUSY, Checks.BEYOND, "loudFor", 100000, 60);
    Twins.refused(BUSY, Checks.BEYOND, "loudFor", 99999, 61);
    Twins.refused(BUSY, Checks.BEYOND, "empty", 21);
    Twins.refused(BUSY, Checks.BEYOND, "cover", 4096 + 2048);
    Twins.refused(BUSY, Checks.BEYOND, "feed", 0, 5);
    Twins.refused(BUSY, Checks.BEYOND, "feed", 0, 0);
    Twins.refused(BUSY, Checks.BEYOND, "as", 1, 7);
    Twins.refused(BUSY, Checks.BEYOND, "as", 1, -1);
    Twins.refused(BUSY, Checks.BEYOND, "sheet", 4, 8, -1);
    Twins.refused(BUSY, Checks.BEYOND, "sheet", -1, 0, -1);
    Twins.refused(BUSY, Checks.BEYOND, "sheet", 0, 7, -1);
    Twins.refused(BUSY, Checks.BEYOND, "sheet", 0, 1, Integer.MIN_VALUE);
  }

  private static void missingBeforeBeyond() {
    Twins.refused(BUSY, Checks.MISSING, "fits", 3, 8);
    Twins.refused(BUSY, Checks.MISSING, "fits", 3, -1);
    Twins.refused(BUSY, Checks.MISSING, "kinds", 3, 8);
    Twins.refused(BUSY, Checks.MISSING, "kinds", 3, -1);
    Twins.refused(BUSY, Checks.MISSING, "write", 3, 40, 0);
    Twins.refused(BUSY, Checks.MISSING, "write", 3, -1, 0);
    Twins.refused(BUSY, Checks.BEYOND, "fits", 4, 8);
    Twins.refused(BUSY, Checks.BEYOND, "kinds", -1, 8);
    Twins.refused(BUSY, Checks.BEYOND, "write", 4, -1, 0);
  }

  private static void copyInItsOrder() {
    Twins.refused(BUSY, Checks.BEYOND, "copy", 3, 0, 4, 0, 0);
    Twins.refused(BUSY, Checks.BEYOND, "copy", -1, 0, 3, 0, 0);
    Twins.refused(BUSY, Checks.BEYOND, "copy", 2, 0, 4, 0, 0);
    Twins.refused(BUSY, Checks.MISSING, "copy", 3, -1, 0, 0, 0);
    Twins.refused(BUSY, Checks.MISSING, "copy", 2, 0, 3, 0, 41);
    Twins.refused(BUSY, Checks.MISSING, "copy", 3, 0, 2, 9, 0);
    Twins.refused(BUSY, Checks.KIND, "copy", 0, -1, 2, 0, 0);
    Twins.refused(BUSY, Checks.KIND, "copy", 0, 0, 2, -1, 0);
    Twins.refused(BUSY, Checks.KIND, "copy", 2, 0, 0, 0, -1);
    Twins.refused(BUSY, Checks.KIND, "copy", 2, 0, 0, 0, 41);
  }
}
