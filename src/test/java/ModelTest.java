import java.lang.reflect.Method;
import java.util.ArrayList;
import java.util.List;
import java.util.Random;

/**
 * Long runs of calls drawn from a fixed seed, each answer held against the model's. Arguments are
 * mostly near what a call takes, now and then far from it, so that no call may throw either.
 */
public final class ModelTest {
  private static final int RUNS = 300;
  private static final int CALLS = 400;
  private static final int[] FAR = {Integer.MIN_VALUE, Integer.MIN_VALUE + 1, -1000001, -100, 100,
      4096, 100000, 1 << 16, Integer.MAX_VALUE - 1, Integer.MAX_VALUE};
  private static final String[] PIECES = {"resident", "maid", "boy", "cook", "widow", "deaf", "lad",
      "at", "wants", "hope", "away", "crier", "pace", "loud", "cry", ";", "; ", " ", "0", "3", "12",
      "99", "4095", "10000", "#", "x"};

  private static final Random RANDOM = new Random(20261118);

  public static void main(String[] args) {
    List<Method> methods = new ArrayList<>(Calls.all().values());
    for (int run = 0; run < RUNS; run++) {
      oneRun(run, methods);
    }
    Checks.finish("ModelTest");
  }

  private static void oneRun(int run, List<Method> methods) {
    EmptyBarrow x = new EmptyBarrow();
    Model model = new Model();
    for (int i = RANDOM.nextInt(9); i > 0; i--) {
      int kind = RANDOM.nextInt(7);
      int door = RANDOM.nextInt(16);
      Checks.due("resident", x.resident(kind, door), model.call("resident", kind, door));
    }
    int done = 0;
    while (done < CALLS) {
      Method m = methods.get(RANDOM.nextInt(methods.size()));
      if (m.getName().equals("text") && RANDOM.nextInt(4) > 0) {
        done += someText(run, x, model);
      } else if (m.getName().equals("fits") && RANDOM.nextInt(3) > 0) {
        done += someStandings(run, x, model);
      } else {
        one(run, x, model, m, argumentsOf(m));
        done++;
      }
    }
  }

  private static void one(int run, EmptyBarrow x, Model model, Method m, int[] a) {
    String call = "run " + run + ": " + Calls.told(m.getName(), a);
    Checks.due(call, Calls.answer(x, m.getName(), a), model.call(m.getName(), a));
  }

  private static int[] argumentsOf(Method m) {
    int[] a = new int[m.getParameterCount()];
    int[] most = mostOf(m.getName());
    for (int i = 0; i < a.length; i++) {
      int way = RANDOM.nextInt(40);
      if (way == 0) {
        a[i] = FAR[RANDOM.nextInt(FAR.length)];
      } else if (way == 1) {
        a[i] = RANDOM.nextBoolean() ? -1 : most[i] + 1;
      } else {
        a[i] = RANDOM.nextInt(most[i] + 1);
      }
    }
    shape(m.getName(), a);
    return a;
  }

  /** Where few of the numbers in reach say much, takes others. */
  private static void shape(String name, int[] a) {
    switch (name) {
      case "change":
        if (RANDOM.nextInt(8) > 0 && a[1] >= 0 && a[1] < 6) {
          int[] most = {6, 15, 4095, 99, 20, 1};
          a[2] = RANDOM.nextInt(most[a[1]] + 1);
          a[2] = a[1] == 4 && RANDOM.nextInt(5) == 0 ? 9995 + RANDOM.nextInt(5) : a[2];
          a[2] = a[1] == 5 && RANDOM.nextInt(3) > 0 ? 0 : a[2];
        }
        break;
      case "set":
        if (RANDOM.nextInt(8) > 0 && a[0] >= 0 && a[0] < 3) {
          int[] most = {15, 5, 9};
          a[1] = RANDOM.nextInt(most[a[0]] + 1);
        }
        break;
      case "go":
        a[0] = RANDOM.nextInt(3) > 0 ? RANDOM.nextInt(9) : a[0];
        break;
      case "cover":
        a[0] &= RANDOM.nextInt(3) > 0 ? RANDOM.nextInt(4096) & RANDOM.nextInt(4096) : -1;
        break;
      case "sheet":
        a[1] = RANDOM.nextInt(8) > 0 ? 8 << RANDOM.nextInt(3) : a[1];
        break;
      case "seed":
        a[0] = RANDOM.nextInt();
        break;
      default:
        break;
    }
  }

  private static int[] mostOf(String name) {
    switch (name) {
      case "set": return new int[] {2, 9};
      case "cry": return new int[] {5, 11};
      case "listed": return new int[] {5};
      case "crier": return new int[] {2};
      case "resident": return new int[] {6, 15};
      case "of": return new int[] {7, 10};
      case "change": return new int[] {7, 5, 99};
      case "tempted": case "wants": return new int[] {7, 11};
      case "register": case "comers": return new int[] {11};
      case "go": return new int[] {60};
      case "now": case "count": return new int[] {7};
      case "ahead": return new int[] {7, 6, 100};
      case "gold": return new int[] {100};
      case "stands": return new int[] {7, 40};
      case "despair": return new int[] {7, 99};
      case "cryFor": return new int[] {5, 60};
      case "startFor": return new int[] {60};
      case "loudFor": return new int[] {150, 60};
      case "kindFor": return new int[] {7, 60};
      case "empty": return new int[] {20};
      case "cover": return new int[] {4095};
      case "fits": case "kinds": return new int[] {3, 7};
      case "hawk": return new int[] {20};
      case "odds": return new int[] {7, 17, 1};
      case "seed": return new int[] {99};
      case "feed": return new int[] {127, 4};
      case "hold": return new int[] {9, 7};
      case "as": return new int[] {9, 6};
      case "sheet": return new int[] {3, 32, 40};
      case "write": return new int[] {3, 20, 300};
      case "copy": return new int[] {3, 12, 3, 12, 12};
      case "load": case "judge": return new int[] {3};
      case "status": return new int[] {6};
      default: return new int[0];
    }
  }

  private static int someText(int run, EmptyBarrow x, Model model) {
    String text = RANDOM.nextInt(3) == 0 ? jumble() : sensible();
    int calls = 2;
    Checks.due("wipe", x.wipe(), model.call("wipe"));
    for (int i = 0; i < text.length(); i++) {
      Checks.due("feed", x.feed(text.charAt(i), 1), model.call("feed", text.charAt(i), 1));
      calls++;
    }
    Checks.due("run " + run + ": text '" + text + "'", x.text(), model.call("text"));
    return calls;
  }

  private static String jumble() {
    StringBuilder text = new StringBuilder();
    for (int i = RANDOM.nextInt(7); i >= 0; i--) {
      text.append(PIECES[RANDOM.nextInt(PIECES.length)]).append(RANDOM.nextInt(4) > 0 ? " " : "");
    }
    return text.substring(0, Math.min(120, text.length()));
  }

  private static String sensible() {
    StringBuilder text = new StringBuilder();
    for (int i = RANDOM.nextInt(3); i >= 0; i--) {
      switch (RANDOM.nextInt(5)) {
        case 0: text.append("cry ").append(upTo(5)).append(' ').append(upTo(11)); break;
        case 1: text.append("crier ").append(upTo(15)).append(perhaps("pace", 5))
            .append(perhaps("loud", 9)); break;
        default: text.append(Model.WORDS[RANDOM.nextInt(7)]).append(perhaps("at", 15))
            .append(perhaps("wants", 4095)).append(perhaps("hope", 99))
            .append(RANDOM.nextInt(5) == 0 ? " away" : ""); break;
      }
      text.append(i > 0 || RANDOM.nextInt(20) == 0 ? ";" : "");
    }
    return text.substring(0, Math.min(120, text.length()));
  }

  private static int upTo(int most) {
    return RANDOM.nextInt(most + (RANDOM.nextInt(20) == 0 ? 3 : 1));
  }

  private static String perhaps(String word, int most) {
    return RANDOM.nextBoolean() ? " " + word + " " + upTo(most) : "";
  }

  /** Standings as they will be, so that some good and some kind do fit. */
  private static int someStandings(int run, EmptyBarrow x, Model model) {
    int r = RANDOM.nextInt(8);
    int n = RANDOM.nextInt(12);
    Checks.due("sheet", x.sheet(2, 16, n), model.call("sheet", 2, 16, n));
    for (int i = 0; i < n; i++) {
      long stood = RANDOM.nextInt(3) == 0 ? -1 : model.call("ahead", r, 4, i);
      Checks.due("ahead", stood == -1 ? -1 : x.ahead(r, 4, i), stood);
      Checks.due("write", x.write(2, i, (int) stood), model.call("write", 2, i, (int) stood));
    }
    Checks.due("run " + run + ": fits " + r, x.fits(2, r), model.call("fits", 2, r));
    Checks.due("run " + run + ": kinds " + r, x.kinds(2, r), model.call("kinds", 2, r));
    return 3 + 2 * n;
  }
}
