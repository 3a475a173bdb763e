import java.io.IOException;
import java.nio.file.Files;
import java.nio.file.Path;
import java.util.Set;
import java.util.TreeSet;
import java.util.regex.Matcher;
import java.util.regex.Pattern;

/** The examples of README.md answer what stands there, and none of the calls is without one. Run from the project's folder. */
public final class ReadmeTest {
  private static final Pattern BLOCK = Pattern.compile("(?s)```java\n(.*?)```");
  private static final Pattern EXAMPLE = Pattern.compile("x\\.(\\w+)\\((.*)\\); +// (\\S+)");
  private static final String FRESH = "ArguedFerry x = new ArguedFerry();";

  private static String inDigits(String number) {
    return number.startsWith("0x") ? String.valueOf(Integer.parseUnsignedInt(number.substring(2), 16)) : number;
  }

  private static String asCall(Matcher example) {
    StringBuilder call = new StringBuilder(example.group(1));
    for (String number : example.group(2).isEmpty() ? new String[0] : example.group(2).split(", *")) {
      call.append(' ').append(inDigits(number));
    }
    return call.toString();
  }

  public static void main(String[] args) throws IOException {
    Set<String> shown = new TreeSet<>();
    ArguedFerry x = null;
    Matcher block = BLOCK.matcher(Files.readString(Path.of("README.md")));
    while (block.find()) {
      for (String line : block.group(1).split("\n")) {
        if (line.equals(FRESH)) {
          x = new ArguedFerry();
          continue;
        }
        Matcher example = EXAMPLE.matcher(line);
        boolean told = example.matches();
        Due.that("an example has a call and its answer: " + line, told && x != null);
        if (told && x != null) {
          Due.about("README.md, " + line.trim() + ": ");
          Calls.is(x, asCall(example), Calls.number(example.group(3)));
          shown.add(example.group(1));
        }
      }
    }
    Due.about("README.md: ");
    for (String name : Calls.names()) {
      Due.that(name + " has an example", shown.contains(name));
    }
    Due.end();
  }
}
