import java.lang.reflect.InvocationTargetException;
import java.lang.reflect.Method;
import java.lang.reflect.Modifier;
import java.util.Arrays;
import java.util.Map;
import java.util.TreeMap;

/** Calls by their names, so that tables can tell them. */
final class Calls {
  private static final Map<String, Method> FACE = face();

  private Calls() {
  }

  private static Map<String, Method> face() {
    Map<String, Method> all = new TreeMap<>();
    for (Method m : EmptyBarrow.class.getDeclaredMethods()) {
      if (Modifier.isPublic(m.getModifiers())) {
        all.put(m.getName(), m);
      }
    }
    return all;
  }

  static Map<String, Method> all() {
    return FACE;
  }

  static String told(String name, int... a) {
    return name + Arrays.toString(a).replace('[', '(').replace(']', ')');
  }

  /** What a call answers; one that throws is told as a wrong answer. */
  static long answer(EmptyBarrow x, String name, int... a) {
    try {
      return ((Number) FACE.get(name).invoke(x, Arrays.stream(a).boxed().toArray())).longValue();
    } catch (InvocationTargetException e) {
      Checks.due(told(name, a) + " threw " + e.getCause(), 1, 0);
    } catch (IllegalAccessException e) {
      Checks.due(told(name, a) + " is not public", 1, 0);
    }
    return Long.MIN_VALUE;
  }
}
