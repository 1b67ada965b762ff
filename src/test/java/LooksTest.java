import java.util.Arrays;
import java.util.function.Supplier;

/** Calls that only look: nothing is changed by them, not even what the next one answers. */
public final class LooksTest {
  /** On the busy street each of these answers no finding. */
  private static final Object[][] LOOKS = {
      {"crier", 0}, {"listed", 0}, {"of", 0, 10}, {"tempted", 0, 0}, {"register", 0},
      {"comers", 0}, {"now", 7}, {"ahead", 0, 2, 100}, {"gold", 100}, {"stands", 0, 0},
      {"stands", 4, 1}, {"wants", 2, 0}, {"wants", 2, 4}, {"despair", 0, 99}, {"despair", 1, 30},
      {"cryFor", 3, 60}, {"startFor", 60}, {"loudFor", 1, 60}, {"kindFor", 0, 60}, {"empty", 0},
      {"cover", 7}, {"fits", 0, 0}, {"kinds", 0, 0}, {"odds", 0, 17, 0}, {"as", 3, 0},
      {"judge", 0}, {"count", 6}, {"status", 0}, {"copy", 0, 5, 1, 3, 0}};

  /** Few days behind many, and the other way round: what a longer look left would show. */
  private static final Object[][] MORE = {
      {"ahead", 0, 3, 0}, {"ahead", 6, 6, 1}, {"gold", 0}, {"gold", 7}, {"stands", 0, 9999},
      {"wants", 3, 11}, {"despair", 4, 0}, {"cryFor", 0, 0}, {"cryFor", 5, 7}, {"startFor", 0},
      {"startFor", 7}, {"loudFor", 0, 0}, {"loudFor", 99999, 60}, {"kindFor", 0, 0},
      {"kindFor", 7, 7}, {"empty", 7}, {"empty", 20}, {"cover", 0}, {"cover", 4095},
      {"fits", 2, 1}, {"kinds", 1, 4}, {"odds", 3, 0, 1}, {"gold", 101}, {"fits", 3, 0}};

  public static void main(String[] args) {
    for (Object[] look : LOOKS) {
      Twins.looked(Streets::busy, nameOf(look), argumentsOf(look));
    }
    oneBehindAnother(Streets::busy);
    oneBehindAnother(Streets::roomy);
    oneBehindAnother(() -> Streets.widows(8, 1 << 7 | 1));
    oneBehindAnother(EmptyBarrow::new);
    plansOneBehindAnother();
    Checks.finish("LooksTest");
  }

  private static String nameOf(Object[] call) {
    return (String) call[0];
  }

  private static int[] argumentsOf(Object[] call) {
    return Arrays.stream(call).skip(1).mapToInt(a -> (int) a).toArray();
  }

  private static long answer(EmptyBarrow x, Object[] call) {
    return Calls.answer(x, nameOf(call), argumentsOf(call));
  }

  private static void oneBehindAnother(Supplier<EmptyBarrow> street) {
    Object[][] all = Arrays.copyOf(LOOKS, LOOKS.length + MORE.length);
    System.arraycopy(MORE, 0, all, LOOKS.length, MORE.length);
    for (Object[] second : all) {
      if (nameOf(second).equals("status")) {
        continue;
      }
      long alone = answer(street.get(), second);
      for (Object[] first : all) {
        EmptyBarrow x = street.get();
        answer(x, first);
        Checks.due(Arrays.toString(second) + " behind " + Arrays.toString(first),
            answer(x, second), alone);
      }
    }
  }

  /** There are more doors than goods, and more goods than kinds, so the one could see the other's. */
  private static void plansOneBehindAnother() {
    for (int door = 0; door < 16; door++) {
      EmptyBarrow x = new EmptyBarrow();
      x.resident(Checks.DEAF, (door + 4) % 16);
      x.change(0, 2, 2);
      Checks.due("start for door " + door, x.startFor(7), door);
      Checks.due("a good for no day behind that", x.cryFor(0, 0), 0);
      Checks.due("start for door " + door, x.startFor(7), door);
      Checks.due("a kind for no day behind that", x.kindFor(0, 0), 0);
    }
    for (int good = 0; good < 12; good++) {
      EmptyBarrow x = Streets.widows(1, 1 << good);
      for (int i = 0; i < 6; i++) {
        x.cry(i, good == 0 ? 1 : 0);
      }
      Checks.due("good " + good, x.cryFor(0, 7), good);
      Checks.due("a kind for no day behind that", x.kindFor(0, 0), 0);
      Checks.due("good " + good, x.cryFor(0, 7), good);
      Checks.due("a door for no day behind that", x.startFor(0), 0);
    }
  }
}
