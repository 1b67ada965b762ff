import java.lang.reflect.Constructor;
import java.lang.reflect.Field;
import java.lang.reflect.Method;
import java.lang.reflect.Modifier;
import java.nio.charset.StandardCharsets;
import java.nio.file.Files;
import java.nio.file.Path;
import java.util.ArrayList;
import java.util.Arrays;
import java.util.HashSet;
import java.util.List;
import java.util.Set;
import java.util.TreeSet;
import java.util.regex.Matcher;
import java.util.regex.Pattern;

/** The public face of the document, and those rules of the language that a look can tell. */
public final class FaceTest {
  private static final String FACE = "int set(int,int) int crier(int) int cry(int,int) "
      + "int listed(int) int resident(int,int) int of(int,int) int change(int,int,int) "
      + "int tempted(int,int) int register(int) int comers(int) int go(int) int now(int) "
      + "int ahead(int,int,int) int gold(int) int stands(int,int) int wants(int,int) "
      + "int despair(int,int) int cryFor(int,int) int startFor(int) int loudFor(int,int) "
      + "int kindFor(int,int) int empty(int) int cover(int) int fits(int,int) int kinds(int,int) "
      + "int hawk(int) long odds(int,int,int) int seed(int) int feed(int,int) int wipe() "
      + "int text() int hold(int,int) int as(int,int) int sheet(int,int,int) "
      + "int write(int,int,int) int copy(int,int,int,int,int) int load(int) int judge(int) "
      + "int image() int undo() int tear() int count(int) int status(int)";

  public static void main(String[] args) throws Exception {
    face();
    members(EmptyBarrow.class);
    inner();
    words();
    Checks.finish("FaceTest");
  }

  private static void face() {
    Class<?> c = EmptyBarrow.class;
    Checks.due("public and final", c.getModifiers(), Modifier.PUBLIC | Modifier.FINAL);
    Set<String> want = new TreeSet<>(Arrays.asList(FACE.split(" (?=int |long )")));
    Set<String> got = new TreeSet<>();
    for (Method m : c.getDeclaredMethods()) {
      if (Modifier.isPublic(m.getModifiers())) {
        List<String> types = new ArrayList<>();
        for (Class<?> type : m.getParameterTypes()) {
          types.add(type.getName());
        }
        got.add(m.getReturnType() + " " + m.getName() + "(" + String.join(",", types) + ")");
      }
    }
    Checks.due("methods " + got, got.equals(want) ? 1 : 0, 1);
    Checks.due("constructors", c.getConstructors().length, 1);
    Checks.due("parameters", c.getConstructors()[0].getParameterCount(), 0);
  }

  private static void members(Class<?> c) {
    for (Method m : c.getDeclaredMethods()) {
      boolean isFine = Modifier.isPublic(m.getModifiers()) || Modifier.isPrivate(m.getModifiers());
      Checks.due("method " + m, isFine ? 1 : 0, 1);
    }
    for (Field f : c.getDeclaredFields()) {
      Checks.due("field " + f, Modifier.isPrivate(f.getModifiers()) ? 1 : 0, 1);
    }
    for (Constructor<?> k : c.getDeclaredConstructors()) {
      Checks.due("constructor " + k, Modifier.isPublic(k.getModifiers()) ? 1 : 0, 1);
    }
  }

  private static void inner() {
    Set<String> names = new HashSet<>();
    for (Method m : EmptyBarrow.class.getDeclaredMethods()) {
      if (Modifier.isPublic(m.getModifiers())) {
        names.add(m.getName());
      }
    }
    Class<?>[] all = EmptyBarrow.class.getDeclaredClasses();
    Checks.due("twelve classes at most", all.length < 12 ? 1 : 0, 1);
    for (Class<?> c : all) {
      Checks.due("static " + c, Modifier.isStatic(c.getModifiers()) ? 1 : 0, 1);
      Checks.due("hidden " + c, Modifier.isPublic(c.getModifiers()) ? 1 : 0, 0);
      int fields = 0;
      for (Field f : c.getDeclaredFields()) {
        fields += Modifier.isStatic(f.getModifiers()) ? 0 : 1;
      }
      Checks.due("fields of " + c, fields <= 20 ? 1 : 0, 1);
      for (Method m : c.getDeclaredMethods()) {
        Checks.due("a name of the face: " + m, names.contains(m.getName()) ? 1 : 0, 0);
      }
    }
  }

  private static void words() throws Exception {
    Path path = Path.of("src/main/java/EmptyBarrow.java");
    String source = Files.readString(path, StandardCharsets.US_ASCII);
    String code = source.replaceAll("(?s)/\\*.*?\\*/", "").replaceAll("//[^\n]*", "");
    Pattern barred = Pattern.compile("\\b(throw|throws|try|catch|finally|synchronized|assert|"
        + "package|protected|double|float|Object|System(?!\\.arraycopy)|Random|Thread|"
        + "hashCode|toString|\\w+Exact)\\b|->|::|@");
    Matcher m = barred.matcher(code);
    Checks.due("barred: " + (m.find() ? m.group() : ""), m.reset().find() ? 1 : 0, 0);
    Matcher imports = Pattern.compile("import ([^;]*);").matcher(code);
    while (imports.find()) {
      Checks.due(imports.group(), imports.group(1).equals("java.util.Arrays") ? 1 : 0, 1);
    }
  }
}
