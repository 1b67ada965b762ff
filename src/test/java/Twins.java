import java.util.ArrayList;
import java.util.List;
import java.util.function.Supplier;

/**
 * Two objects with the same calls behind them. One makes a call more; then all that can be seen of
 * either is asked, the tape and the image included, so that a change shows wherever it is.
 */
final class Twins {
  private Twins() {
  }

  /** The call answers the finding, changes nothing but status(), and is counted there once. */
  static void refused(Supplier<EmptyBarrow> street, int finding, String name, int... a) {
    EmptyBarrow x = street.get();
    int place = Checks.BEYOND - finding;
    int[] before = statuses(x);
    String call = Calls.told(name, a);
    Checks.due(call, Calls.answer(x, name, a), finding);
    int[] behind = statuses(x);
    for (int i = 0; i < 8; i++) {
      boolean isCounted = i == 0 || i == 1 + place;
      Checks.due("status " + (i - 1) + " behind " + call, behind[i], before[i] + (isCounted ? 1 : 0));
    }
    same(call, x, street.get());
  }

  /** The call answers no finding, and changes nothing at all. */
  static void looked(Supplier<EmptyBarrow> street, String name, int... a) {
    EmptyBarrow x = street.get();
    int before = x.status(-1);
    String call = Calls.told(name, a);
    Calls.answer(x, name, a);
    Checks.due("status behind " + call, x.status(-1), before);
    same(call, x, street.get());
  }

  /** All that can be seen of the one is as of the other; both are used up by that. */
  static void same(String call, EmptyBarrow x, EmptyBarrow y) {
    List<Long> got = everything(x);
    List<Long> want = everything(y);
    int differ = 0;
    for (int i = 0; i < want.size(); i++) {
      differ += got.get(i).equals(want.get(i)) ? 0 : 1;
    }
    Checks.due("what is changed by " + call, differ, 0);
  }

  private static int[] statuses(EmptyBarrow x) {
    int[] all = new int[8];
    for (int i = 0; i < 8; i++) {
      all[i] = x.status(i - 1);
    }
    return all;
  }

  private static List<Long> everything(EmptyBarrow x) {
    List<Long> all = new ArrayList<>();
    street(x, all);
    add(all, x.count(5), x.text());
    crier(x, all);
    sheets(x, all);
    add(all, x.undo());
    street(x, all);
    add(all, x.tear());
    return all;
  }

  private static void add(List<Long> all, int... answers) {
    for (int answer : answers) {
      all.add((long) answer);
    }
  }

  private static void crier(EmptyBarrow x, List<Long> all) {
    add(all, x.crier(0), x.crier(1), x.crier(2));
    for (int i = 0; i < 6; i++) {
      add(all, x.listed(i));
    }
  }

  private static void street(EmptyBarrow x, List<Long> all) {
    crier(x, all);
    for (int good = 0; good < 12; good++) {
      add(all, x.register(good));
    }
    add(all, x.count(0), x.count(1), x.count(2), x.count(6), x.count(7));
    for (int i = 0; i < 8; i++) {
      for (int what = 0; what < 6; what++) {
        add(all, x.of(i, what));
      }
    }
    for (int spot = 0; spot < 10; spot++) {
      add(all, x.as(spot, 0));
    }
  }

  /** Whether sheets are there, of how many bits and how long, and what they tell. */
  private static void sheets(EmptyBarrow x, List<Long> all) {
    for (int s = 0; s < 4; s++) {
      for (int n = 0; n < 8; n++) {
        add(all, x.copy(s, n, s, 0, 0));
      }
      add(all, x.copy(0, 0, s, 0, 0), x.copy(2, 0, s, 0, 0), x.load(s));
      for (int i = 0; i < 8; i++) {
        add(all, x.of(i, 2));
      }
    }
  }
}
