import java.nio.charset.StandardCharsets;
import java.nio.file.Files;
import java.nio.file.Path;
import java.util.Arrays;
import java.util.regex.Matcher;
import java.util.regex.Pattern;

/** README.md tells how to use the class: what its examples answer, and that no call is left out. */
public final class ReadmeTest {
  private static final Pattern EXAMPLE =
      Pattern.compile("(?m)^x\\.(\\w+)\\(([^)]*)\\); *// (-?\\d+): ");

  public static void main(String[] args) throws Exception {
    String readme = Files.readString(Path.of("README.md"), StandardCharsets.US_ASCII);
    examples(readme);
    names(readme);
    Checks.finish("ReadmeTest");
  }

  private static void examples(String readme) {
    EmptyBarrow x = new EmptyBarrow();
    Matcher m = EXAMPLE.matcher(readme);
    int examples = 0;
    while (m.find()) {
      int[] a = Arrays.stream(m.group(2).split(", ")).filter(v -> !v.isEmpty())
          .mapToInt(Integer::decode).toArray();
      Checks.due("README: " + m.group(), Calls.answer(x, m.group(1), a), Long.parseLong(m.group(3)));
      examples++;
    }
    // A line that the pattern can't read would be an example that nobody looks at.
    long lines = readme.lines().filter(line -> line.startsWith("x.")).count();
    Checks.due("examples", examples, lines);
    Checks.due("there are some", lines > 20 ? 1 : 0, 1);
  }

  private static void names(String readme) {
    for (String name : Calls.all().keySet()) {
      Checks.due("README names " + name, readme.contains("`" + name + "`") ? 1 : 0, 1);
    }
  }
}
