/** Promises 30 to 32: the tape and texts. */
public final class TextsTest {
  public static void main(String[] args) {
    feed();
    wipe();
    textTells();
    crierKeepsWhatIsNotTold();
    blanksAndNumbers();
    faults();
    ninth();
    faultsChangeNothing();
    Checks.finish("TextsTest");
  }

  private static void feed() {
    EmptyBarrow x = new EmptyBarrow();
    Checks.due("feed 0", x.feed(0, 0), Checks.BEYOND);
    Checks.due("feed 5", x.feed(0, 5), Checks.BEYOND);
    Checks.due("feed -1", x.feed(0, -1), Checks.BEYOND);
    // The lowest bytes, the highest of these first: "cry" without the x, then " 0 7".
    Checks.due("three bytes", x.feed(0x78637279, 3), 3);
    Checks.due("four bytes", x.feed(0x20302037, 4), 7);
    Checks.due("text", x.text(), 1);
    Checks.due("listed", x.listed(0), 7);
    for (int i = 1; i <= 29; i++) {
      Checks.due("feed", x.feed(0x20202020, 4), 4 * i);
    }
    Checks.due("two", x.feed(0x2020, 2), 118);
    Checks.due("full", x.feed(0, 3), Checks.FULL);
    Checks.due("beyond comes first", x.feed(0, 5), Checks.BEYOND);
    Checks.due("it has", x.count(5), 118);
    Checks.due("just full", x.feed(0x2020, 2), 120);
    Checks.due("full", x.feed(0, 1), Checks.FULL);
    Checks.due("blanks alone end too early", x.text(), -121);
    Checks.due("empty then", x.count(5), 0);
    Checks.due("no finding", x.status(-1), 6);
  }

  private static void wipe() {
    EmptyBarrow x = new EmptyBarrow();
    x.feed(0x41, 1);
    x.feed(0x4142, 2);
    Checks.due("wipe", x.wipe(), 3);
    Checks.due("wipe", x.wipe(), 0);
    Checks.due("count", x.count(5), 0);
    Checks.due("behind it", Checks.read(x, "cry 1 2"), 1);
  }

  private static void textTells() {
    EmptyBarrow x = new EmptyBarrow();
    Checks.due("text", Checks.read(x, "resident;maid at 1;boy wants 2;cook hope 3;widow away"), 5);
    Checks.due("text", Checks.read(x, "deaf at 15 wants 4095 hope 99 away;lad hope 0 away"), 2);
    int[][] of = {{0, 0, 0, 50, 0, 0}, {1, 1, 0, 50, 0, 0}, {2, 0, 2, 50, 0, 0}, {3, 0, 0, 3, 0, 0},
        {4, 0, 0, 50, 0, 1}, {5, 15, 4095, 99, 0, 1}, {6, 0, 0, 0, 0, 1}};
    for (int i = 0; i < of.length; i++) {
      for (int what = 0; what < 6; what++) {
        Checks.due("of " + i + " " + what, x.of(i, what), of[i][what]);
      }
    }
    Checks.due("text", Checks.read(x, "crier 15 pace 5 loud 9;cry 5 11;cry 5 10;cry 0 0;crier 7"), 5);
    Checks.due("item by item", x.crier(0), 7);
    Checks.due("pace", x.crier(1), 5);
    Checks.due("loud", x.crier(2), 9);
    Checks.due("item by item", x.listed(5), 10);
    Checks.due("residents", x.count(1), 7);
    Checks.due("tape", x.count(5), 0);
  }

  private static void crierKeepsWhatIsNotTold() {
    EmptyBarrow x = new EmptyBarrow();
    x.set(1, 1);
    x.set(2, 8);
    Checks.due("text", Checks.read(x, "crier 3 loud 7"), 1);
    Checks.due("door", x.crier(0), 3);
    Checks.due("pace stays", x.crier(1), 1);
    Checks.due("loud", x.crier(2), 7);
    Checks.due("text", Checks.read(x, "crier 4 pace 0"), 1);
    Checks.due("pace", x.crier(1), 0);
    Checks.due("loud stays", x.crier(2), 7);
  }

  private static void blanksAndNumbers() {
    EmptyBarrow x = new EmptyBarrow();
    Checks.due("none needed", Checks.read(x, "lad at015wants04095hope0099away;cry5 0011"), 2);
    Checks.due("many", Checks.read(x, "   cry   4   9   ;   crier  2  pace  3  "), 2);
    Checks.due("long number", Checks.read(x, "cry 0 00000000000000000000000000000000000003"), 1);
    Checks.due("door", x.of(0, 1), 15);
    Checks.due("listed", x.listed(5), 11);
    Checks.due("listed", x.listed(4), 9);
    Checks.due("listed", x.listed(0), 3);
    Checks.due("pace", x.crier(1), 3);
    StringBuilder most = new StringBuilder("cry 0 1");
    while (most.length() + 7 <= 120) {
      most.append(";cry0 1");
    }
    Checks.due("many items", Checks.read(x, most.toString()), 17);
  }

  private static void faults() {
    EmptyBarrow x = new EmptyBarrow();
    Object[][] faults = {
        {"", 0}, {" ", 1}, {";", 0}, {"7", 0}, {"cat", 0}, {"Cook", 0}, {"cooks", 0}, {"coo", 0},
        {"#", 0}, {"\t", 0}, {" \u00ff", 1}, {"at 3", 0}, {"away", 0}, {"pace 3", 0},
        {"cook 5", 5}, {"cook at", 7}, {"cook at ", 8}, {"cook at ;", 8}, {"cook at 16", 8},
        {"cook at 10000", 8}, {"cook at 4294967296", 8}, {"cook at 99999999999999999999", 8},
        {"cook at wants 1", 8}, {"cook at at", 8}, {"cook at 1 at 1", 10}, {"cook at -1", 8},
        {"cook wants", 10}, {"cook wants 4096", 11}, {"cook wants 1 at 1", 13},
        {"cook wants 1 wants 1", 13}, {"cook hope 100", 10}, {"cook hope 1 wants 1", 12},
        {"cook hope 1 hope 1", 12}, {"cook away hope 1", 10}, {"cook away away", 10},
        {"cook away 1", 10}, {"cookat 1", 0}, {"cook at 1 loud 1", 10}, {"cook\tat 1", 4},
        {"cook cook", 5}, {"cook;", 5}, {"cook;;", 5}, {"cook; ;", 6}, {"cook; x", 6},
        {"rook", 0}, {"cookz", 0}, {"cooka", 0}, {"cook wants ;", 11}, {"cook hope", 9},
        {"cook hope ;", 10}, {"crier ;", 6}, {"crier 0 pace ;", 13}, {"crier 0 loud ;", 13},
        {"cry ;", 4}, {"cry 0 ;", 6}, {"cook`", 4}, {"cook{", 4}, {"cook at /", 8},
        {"cook at :", 8}, {"cook,maid", 4}, {"cook at 1.", 9}, {"cook at 1z", 9},
        {"crier", 5}, {"crier pace 1", 6}, {"crier 16", 6}, {"crier 1 2", 8}, {"crier 0 pace", 12},
        {"crier 0 pace 6", 13}, {"crier 0 loud", 12}, {"crier 0 loud 10", 13},
        {"crier 0 loud 1 pace 1", 15}, {"crier 0 pace 1 pace 1", 15}, {"crier 0 pace loud", 13},
        {"crier 0 away", 8}, {"cry", 3}, {"cry 6 0", 4}, {"cry 0", 5}, {"cry 0 12", 6},
        {"cry 0 0 0", 8}, {"cry 0;", 5}, {"cry a 0", 4}, {"cry 0 a", 6}, {"cry 0 1;", 8},
        {"cry 0 1 at", 8}, {"cry 0 1; cry 0 99", 15}};
    for (Object[] f : faults) {
      Checks.due("text '" + f[0] + "'", Checks.read(x, (String) f[0]), -1 - (Integer) f[1]);
      Checks.due("empty behind '" + f[0] + "'", x.wipe(), 0);
    }
    Checks.due("no findings", x.status(-1), 0);
    Checks.due("no residents", x.count(1), 0);
  }

  private static void ninth() {
    EmptyBarrow x = new EmptyBarrow();
    for (int i = 0; i < 7; i++) {
      x.resident(Checks.RESIDENT, 0);
    }
    Checks.due("9th", Checks.read(x, "cry 0 1; boy ; lad at 99"), -1 - 15);
    Checks.due("the 8th is not there", x.count(1), 7);
    Checks.due("nothing changes", x.listed(0), 0);
    Checks.due("8th", Checks.read(x, "cry 0 1;boy"), 2);
    Checks.due("residents", x.count(1), 8);
    Checks.due("9th", Checks.read(x, "deaf"), -1);
    Checks.due("no finding", x.status(-1), 0);
  }

  private static void faultsChangeNothing() {
    EmptyBarrow x = new EmptyBarrow();
    Checks.due("fault", Checks.read(x, "crier 3 pace 1 loud 1;cry 2 9;widow at 2;cat"), -1 - 41);
    Checks.due("door", x.crier(0), 0);
    Checks.due("pace", x.crier(1), 2);
    Checks.due("loud", x.crier(2), 4);
    Checks.due("listed", x.listed(2), 2);
    Checks.due("residents", x.count(1), 0);
  }
}
