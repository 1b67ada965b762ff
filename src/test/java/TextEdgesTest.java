import java.util.function.Supplier;

/** Terms, point 3, and promises 30 to 32: the edges of tokens, numbers, items and the tape. */
public final class TextEdgesTest {
  private static final String[] WORDS = {"resident", "maid", "boy", "cook", "widow", "deaf", "lad"};

  public static void main(String[] args) {
    numbersUpToTheirGreatest();
    numbersUpTo9999();
    numbersOfManyDigits();
    bytesThatBeginNoToken();
    tokensAsLongAsCanBe();
    blanks();
    endsTooEarly();
    itemsInAnyNumber();
    onlyTheseWords();
    wordsWithAnotherLetter();
    whatMayBeLeftOut();
    whatIsNotToldStays();
    eightAndNine();
    laterFaultIsNotTold();
    fullTape();
    bytesOfANumber();
    faultChangesOnlyTheTape();
    Checks.finish("TextEdgesTest");
  }

  private static void read(EmptyBarrow x, String text, int want) {
    Checks.due("text '" + text + "'", Checks.read(x, text), want);
    Checks.due("the tape behind '" + text + "'", x.count(5), 0);
  }

  private static void fault(String text, int place) {
    EmptyBarrow x = new EmptyBarrow();
    read(x, text, -1 - place);
    Checks.due("residents behind '" + text + "'", x.count(1), 0);
    Checks.due("findings behind '" + text + "'", x.status(-1), 0);
  }

  /** The words before a number, its greatest, and the words behind it. */
  private static void numbersUpToTheirGreatest() {
    Object[][] numbers = {{"maid at ", 15, ""}, {"maid wants ", 4095, ""}, {"maid hope ", 99, ""},
        {"maid at 1 wants ", 4095, " hope 1"}, {"maid at 1 wants 1 hope ", 99, " away"},
        {"crier ", 15, ""}, {"crier 0 pace ", 5, ""}, {"crier 0 loud ", 9, ""},
        {"crier 0 pace 0 loud ", 9, ""}, {"cry ", 5, " 0"}, {"cry 0 ", 11, ""}, {"cry 5 ", 11, ""}};
    for (Object[] n : numbers) {
      String before = (String) n[0];
      int greatest = (int) n[1];
      String behind = (String) n[2];
      read(new EmptyBarrow(), before + 0 + behind, 1);
      read(new EmptyBarrow(), before + greatest + behind, 1);
      fault(before + (greatest + 1) + behind, before.length());
      fault(before + "-1" + behind, before.length());
      fault(before + ";", before.length());
    }
  }

  private static void numbersUpTo9999() {
    fault("maid wants 9999", 11);
    fault("maid wants 10000", 11);
    fault("maid wants 40950", 11);
    fault("maid wants 4294967296", 11);
    fault("maid wants 4294967297", 11);
    fault("maid wants 18446744073709551617", 11);
    // Cut behind a digit these would be numbers that may stand there.
    fault("crier 100", 6);
    fault("cry 55 1", 4);
    fault("cry 0 111", 6);
  }

  private static void numbersOfManyDigits() {
    EmptyBarrow x = new EmptyBarrow();
    read(x, "maid at 0000000015 wants 000000004095 hope 0000099", 1);
    Checks.due("door", x.of(0, 1), 15);
    Checks.due("wants", x.of(0, 2), 4095);
    Checks.due("hope", x.of(0, 3), 99);
    read(x, "crier " + "0".repeat(113) + "7", 1);
    Checks.due("door", x.crier(0), 7);
    fault("crier " + "0".repeat(112) + "16", 6);
    fault("crier " + "9".repeat(114), 6);
    fault("crier 1" + "0".repeat(113), 6);
  }

  /** Every byte but a letter, a digit, ; and a blank, ahead of a text, in it and behind it. */
  private static void bytesThatBeginNoToken() {
    for (int b = 0; b < 256; b++) {
      boolean isToken = b >= 'a' && b <= 'z' || b >= '0' && b <= '9' || b == ';' || b == ' ';
      if (isToken) {
        continue;
      }
      String sign = String.valueOf((char) b);
      fault(sign, 0);
      fault(" " + sign + "maid", 1);
      fault("maid" + sign, 4);
      fault("maid at" + sign + "3", 7);
      fault("maid at 3" + sign, 9);
      fault("maid;" + sign + "maid", 5);
    }
  }

  private static void tokensAsLongAsCanBe() {
    fault("maidat 3", 0);
    fault("maids", 0);
    fault("mai", 0);
    fault("a", 0);
    fault("z", 0);
    fault("maid at1at2", 8);
    fault("maid at 1 5", 10);
    fault("crier 1 0", 8);
    fault("cry 1 1 1", 8);
    fault("crie r 1", 0);
    EmptyBarrow x = new EmptyBarrow();
    read(x, "maid at1wants2hope3away;boy;crier4pace5loud6;cry5 11", 4);
    int[] of = {1, 1, 2, 3, 0, 1};
    for (int what = 0; what < 6; what++) {
      Checks.due("of the maid " + what, x.of(0, what), of[what]);
    }
    Checks.due("door", x.crier(0), 4);
    Checks.due("pace", x.crier(1), 5);
    Checks.due("loud", x.crier(2), 6);
    Checks.due("listed", x.listed(5), 11);
    // Without the blank the two numbers are one.
    fault("cry 51", 4);
    fault("cry 5", 5);
  }

  private static void blanks() {
    EmptyBarrow x = new EmptyBarrow();
    read(x, "  cry  1   9  ;  cry 2 8 ", 2);
    Checks.due("listed", x.listed(1), 9);
    Checks.due("listed", x.listed(2), 8);
    fault("   ", 3);
    fault("  ;", 2);
    fault("cry 1 9 ;  ", 11);
    fault("ma id", 0);
  }

  /** An item as far as each of its tokens: where it may end there it does, else at the last byte. */
  private static void endsTooEarly() {
    String[] cut = {"", " ", "maid at", "maid at ", "maid wants", "maid hope", "maid at 1 wants",
        "maid at 1 wants 1 hope", "maid hope  ", "crier", "crier ", "crier 0 pace", "crier 0 loud",
        "crier 0 pace 1 loud", "cry", "cry ", "cry 0", "cry 0 ", "maid;", "maid; ", "crier 0;",
        "cry 0 0;", "maid;maid;"};
    for (String text : cut) {
      fault(text, text.length());
    }
    String[] whole = {"maid", "maid ", "maid at 1", "maid at 1 wants 1", "maid at 1 wants 1 hope 1",
        "maid at 1 wants 1 hope 1 away", "crier 0", "crier 0 pace 1", "crier 0 pace 1 loud 1",
        "crier 0 loud 1", "cry 0 0"};
    for (String text : whole) {
      read(new EmptyBarrow(), text, 1);
    }
  }

  private static void itemsInAnyNumber() {
    StringBuilder text = new StringBuilder("cry0 0");
    for (int items = 1; items <= 17; items++) {
      read(new EmptyBarrow(), text.toString(), items);
      text.append(";cry0 0");
    }
    read(new EmptyBarrow(), "lad;boy;lad;boy;lad;boy;lad;boy", 8);
  }

  private static void onlyTheseWords() {
    for (String word : new String[] {"at", "wants", "hope", "away", "pace", "loud", "cat", "residen",
        "residents", "cries", "crie", "cr", "0", "15", ";"}) {
      fault(word, 0);
      fault("boy;" + word, 4);
    }
    for (String word : new String[] {"pace 1", "loud 1", "boy", "crier 1", "cry 1 1", "3"}) {
      fault("boy " + word, 4);
      fault("boy at 1 " + word, 9);
      fault("boy away " + word, 9);
    }
    for (String word : new String[] {"at 1", "wants 1", "hope 1", "away", "cry", "crier", "3"}) {
      fault("crier 1 " + word, 8);
      fault("crier 1 pace 1 " + word, 15);
      fault("crier 1 loud 1 " + word, 15);
      fault("cry 1 1 " + word, 8);
    }
    fault("boy wants 1 at 1", 12);
    fault("boy hope 1 at 1", 11);
    fault("boy hope 1 wants 1", 11);
    fault("boy away at 1", 9);
    fault("boy away wants 1", 9);
    fault("boy away hope 1", 9);
    fault("crier 1 loud 1 pace 1", 15);
  }

  /** Each letter of each word changed, one left out at either end, one too many at either end. */
  private static void wordsWithAnotherLetter() {
    String[][] items = {{"", "resident", ""}, {"", "maid", ""}, {"", "boy", ""}, {"", "cook", ""},
        {"", "widow", ""}, {"", "deaf", ""}, {"", "lad", ""}, {"boy ", "at", " 1"},
        {"boy ", "wants", " 1"}, {"boy ", "hope", " 1"}, {"boy ", "away", ""}, {"", "crier", " 1"},
        {"crier 1 ", "pace", " 1"}, {"crier 1 ", "loud", " 1"}, {"", "cry", " 1 1"}};
    for (String[] item : items) {
      String word = item[1];
      int place = item[0].length();
      read(new EmptyBarrow(), item[0] + word + item[2], 1);
      for (int i = 0; i < word.length(); i++) {
        char other = word.charAt(i) == 'z' ? 'y' : (char) (word.charAt(i) + 1);
        fault(item[0] + word.substring(0, i) + other + word.substring(i + 1) + item[2], place);
      }
      fault(item[0] + word.substring(1) + item[2], place);
      fault(item[0] + word.substring(0, word.length() - 1) + item[2], place);
      for (char more : new char[] {'a', 'z'}) {
        fault(item[0] + more + word + item[2], place);
        fault(item[0] + word + more + item[2], place);
      }
    }
  }

  /** Each of the four with and without, in each kind. */
  private static void whatMayBeLeftOut() {
    for (int kind = 0; kind < 7; kind++) {
      for (int told = 0; told < 16; told++) {
        EmptyBarrow x = new EmptyBarrow();
        String text = WORDS[kind] + ((told & 1) == 1 ? " at 9" : "")
            + ((told & 2) == 2 ? " wants 77" : "") + ((told & 4) == 4 ? " hope 33" : "")
            + ((told & 8) == 8 ? " away" : "");
        read(x, text, 1);
        int[] want = {kind, (told & 1) == 1 ? 9 : 0, (told & 2) == 2 ? 77 : 0,
            (told & 4) == 4 ? 33 : 50, 0, told >> 3};
        for (int what = 0; what < 6; what++) {
          Checks.due("of '" + text + "' " + what, x.of(0, what), want[what]);
        }
      }
    }
  }

  private static void whatIsNotToldStays() {
    for (int told = 0; told < 4; told++) {
      EmptyBarrow x = new EmptyBarrow();
      x.set(0, 3);
      x.set(1, 4);
      x.set(2, 8);
      String text = "crier 15" + ((told & 1) == 1 ? " pace 0" : "") + (told > 1 ? " loud 0" : "");
      read(x, text, 1);
      Checks.due("door of '" + text + "'", x.crier(0), 15);
      Checks.due("pace of '" + text + "'", x.crier(1), (told & 1) == 1 ? 0 : 4);
      Checks.due("loud of '" + text + "'", x.crier(2), told > 1 ? 0 : 8);
    }
  }

  private static void eightAndNine() {
    for (int there = 0; there <= 8; there++) {
      EmptyBarrow x = new EmptyBarrow();
      for (int i = 0; i < there; i++) {
        x.resident(Checks.LAD, 0);
      }
      String some = "boy;".repeat(8 - there);
      // The 9th is a fault at its own word, whatever is behind it.
      read(x, some + "cry 0 9; boy at 99", -1 - some.length() - 9);
      Checks.due("nobody came", x.count(1), there);
      Checks.due("nothing changes", x.listed(0), 0);
      read(x, some + "cry 0 9", 9 - there);
      Checks.due("eight", x.count(1), 8);
      Checks.due("listed", x.listed(0), 9);
      read(x, "maid", -1);
      read(x, "cat", -1);
      read(x, "crier 5", 1);
      Checks.due("no finding", x.status(-1), 0);
    }
  }

  private static void laterFaultIsNotTold() {
    fault("maid at 16 wants 4096", 8);
    fault("maid at 16;#", 8);
    fault("maid cat #", 5);
    fault("# maid at 16", 0);
    fault("cry 6 12", 4);
    fault("crier 16 pace 6", 6);
  }

  private static void fullTape() {
    String text = "crier 1 pace 1 loud 1";
    EmptyBarrow x = new EmptyBarrow();
    Checks.feed(x, text + " ".repeat(99));
    Checks.due("120 bytes", x.count(5), 120);
    Checks.due("no room", x.feed(' ', 1), Checks.FULL);
    Checks.due("text", x.text(), 1);
    Checks.due("empty then", x.count(5), 0);
    Checks.due("room again", x.feed(0x20202020, 4), 4);
    Checks.due("wipe", x.wipe(), 4);
    Checks.feed(x, " ".repeat(119) + "7");
    Checks.due("a fault at the last byte", x.text(), -1 - 119);
    Checks.feed(x, " ".repeat(120));
    Checks.due("wipe of a full one", x.wipe(), 120);
    Checks.due("wipe of an empty one", x.wipe(), 0);
    Checks.feed(x, "crier 2" + " ".repeat(112) + ";");
    Checks.due("ends too early", x.text(), -1 - 120);
    Checks.due("nothing changes", x.crier(0), 1);
    Checks.due("text of an empty one", x.text(), -1);
  }

  /** "cry 0 7" by numbers of 1 to 4 bytes, whose higher bytes don't count. */
  private static void bytesOfANumber() {
    int[][][] feeds = {
        {{0x63727920, 4}, {0x302037, 3}},
        {{0x63, 1}, {0x7279, 2}, {0x20302037, 4}},
        {{0xffffff63, 1}, {0xffff7279, 2}, {0xff203020, 3}, {0x80000037, 1}},
        {{0x12637279, 3}, {0x12342030, 2}, {0x12342037, 2}}};
    for (int[][] all : feeds) {
      EmptyBarrow x = new EmptyBarrow();
      int bytes = 0;
      for (int[] f : all) {
        bytes += f[1];
        Checks.due("feed", x.feed(f[0], f[1]), bytes);
      }
      Checks.due("text", x.text(), 1);
      Checks.due("listed", x.listed(0), 7);
    }
    EmptyBarrow x = new EmptyBarrow();
    x.feed(-1, 4);
    Checks.due("bytes above 127", x.text(), -1);
  }

  private static void faultChangesOnlyTheTape() {
    Supplier<EmptyBarrow> wiped = () -> {
      EmptyBarrow x = Streets.busy();
      x.wipe();
      return x;
    };
    Supplier<EmptyBarrow> faulty = () -> {
      EmptyBarrow x = Streets.busy();
      x.wipe();
      Checks.due("fault", Checks.read(x, "crier 1 pace 0 loud 0;cry 0 9;cry 5 0;maid"), -1 - 38);
      return x;
    };
    Twins.same("a text with a fault", faulty.get(), wiped.get());
    Checks.due("no finding", faulty.get().status(-1), wiped.get().status(-1));
  }
}
