/** What the tests share: the findings' names, and a tally of answers that are not as due. */
final class Checks {
  static final int BEYOND = -1000001;
  static final int FULL = -1000002;
  static final int KIND = -1000003;
  static final int NONE = -1000004;
  static final int STATE = -1000005;
  static final int MISSING = -1000006;
  static final int SIZE = -1000007;

  static final int RESIDENT = 0;
  static final int MAID = 1;
  static final int BOY = 2;
  static final int COOK = 3;
  static final int WIDOW = 4;
  static final int DEAF = 5;
  static final int LAD = 6;

  private static final int SECONDS = 300;

  private static int asked = 0;
  private static int wrong = 0;

  static {
    watch();
  }

  private Checks() {
  }

  /** A call that never ends fails the test, too, rather than keep the script waiting. */
  private static void watch() {
    Thread watch = new Thread(() -> {
      try {
        Thread.sleep(1000L * SECONDS);
      } catch (InterruptedException e) {
        return;
      }
      System.out.println("not at its end in " + SECONDS + " seconds, behind " + asked + " answers");
      Runtime.getRuntime().halt(1);
    });
    watch.setDaemon(true);
    watch.start();
  }

  static int wrongSoFar() {
    return wrong;
  }

  static void due(String call, long got, long want) {
    asked++;
    if (got != want) {
      wrong++;
      System.out.println(call + " answered " + got + ", due is " + want);
    }
  }

  /** Puts a text behind what the tape has, four bytes a call. */
  static void feed(EmptyBarrow x, String text) {
    for (int i = 0; i < text.length(); i += 4) {
      int n = Math.min(4, text.length() - i);
      int bytes = 0;
      for (int j = 0; j < n; j++) {
        bytes = bytes << 8 | text.charAt(i + j) & 255;
      }
      x.feed(bytes, n);
    }
  }

  static int read(EmptyBarrow x, String text) {
    feed(x, text);
    return x.text();
  }

  /** A street whose crier stays at door 0. */
  static EmptyBarrow standing() {
    EmptyBarrow x = new EmptyBarrow();
    x.set(1, 0);
    return x;
  }

  /** A sheet that tells these numbers. */
  static void tell(EmptyBarrow x, int s, int bits, int... numbers) {
    x.sheet(s, bits, numbers.length);
    for (int i = 0; i < numbers.length; i++) {
      x.write(s, i, numbers[i]);
    }
  }

  static void finish(String name) {
    System.out.println(name + ": " + asked + " answers, " + wrong + " not as due");
    if (wrong != 0 || asked == 0) {
      System.exit(1);
    }
  }
}
