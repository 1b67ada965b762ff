import java.lang.reflect.Field;

/**
 * Puts numbers where no 512 calls can bring them, for the sentences that have an edge there: DAY
 * near 99999 and THE REGISTER near 999. Only these two reach into the object.
 */
final class Inside {
  private Inside() {
  }

  static void day(EmptyBarrow x, int day) {
    try {
      Object street = street(x);
      field(street, "day").setInt(street, day);
    } catch (ReflectiveOperationException e) {
      Checks.due("the day inside: " + e, 1, 0);
    }
    Checks.due("the day put there", x.now(0), day);
  }

  static void register(EmptyBarrow x, int good, int v) {
    try {
      Object street = street(x);
      ((int[]) field(street, "register").get(street))[good] = v;
    } catch (ReflectiveOperationException e) {
      Checks.due("the register inside: " + e, 1, 0);
    }
    Checks.due("the register put there", x.register(good), v);
  }

  private static Object street(EmptyBarrow x) throws ReflectiveOperationException {
    return field(x, "street").get(x);
  }

  private static Field field(Object holder, String name) throws ReflectiveOperationException {
    Field field = holder.getClass().getDeclaredField(name);
    field.setAccessible(true);
    return field;
  }
}
