import java.io.IOException;
import java.lang.reflect.Constructor;
import java.lang.reflect.Field;
import java.lang.reflect.Method;
import java.lang.reflect.Modifier;
import java.nio.file.Files;
import java.nio.file.Path;
import java.util.Set;
import java.util.TreeSet;
import java.util.regex.Matcher;
import java.util.regex.Pattern;

/** The face that the document tells, and those rules of LANGUAGE.md that can be seen without a compiler. Run from the project's folder. */
public final class LanguageTest {
  private static final Path SOURCE = Path.of("src/main/java/ArguedFerry.java");
  private static final Path DOCUMENT = Path.of("../shared/DOC.md");
  private static final String[] RULED_OUT = {"throw", "throws", "try", "catch", "synchronized", "assert", "volatile", "lambda", "hashCode", "toString", "import static",
    "Random", "System.(?!arraycopy)", "\\w*Exact", "@\\w+", "->", "::", "NaN", "protected", "Object", "package"};

  private static Set<String> faceOfDocument() throws IOException {
    Set<String> face = new TreeSet<>();
    Matcher m = Pattern.compile("(?m)^    public int (\\w+)\\((.*)\\);$").matcher(Files.readString(DOCUMENT));
    while (m.find()) {
      face.add(m.group(1) + " " + (m.group(2).isEmpty() ? 0 : m.group(2).split(",").length));
    }
    return face;
  }

  private static void face() throws IOException {
    Class<?> c = ArguedFerry.class;
    Set<String> open = new TreeSet<>();
    Set<String> names = new TreeSet<>();
    for (Method m : c.getDeclaredMethods()) {
      if (Modifier.isPublic(m.getModifiers())) {
        open.add(m.getName() + " " + m.getParameterCount());
        names.add(m.getName());
        Due.that(m + " answers an int", m.getReturnType() == int.class && !Modifier.isStatic(m.getModifiers()));
      } else {
        Due.that(m + " is private", Modifier.isPrivate(m.getModifiers()));
      }
    }
    Due.that("the face is the document's: " + open, open.equals(faceOfDocument()));
    Due.is("calls", open.size(), 43);
    Due.that("public final", Modifier.isPublic(c.getModifiers()) && Modifier.isFinal(c.getModifiers()));
    Constructor<?>[] made = c.getDeclaredConstructors();
    Due.that("one public constructor", made.length == 1 && Modifier.isPublic(made[0].getModifiers()) && made[0].getParameterCount() == 0);
    int constants = 0;
    for (Field f : c.getDeclaredFields()) {
      boolean shown = Modifier.isPublic(f.getModifiers());
      constants += shown ? 1 : 0;
      Due.that(f + " is private or a constant", shown ? Modifier.isStatic(f.getModifiers()) && Modifier.isFinal(f.getModifiers()) : Modifier.isPrivate(f.getModifiers()));
    }
    Due.is("constants", constants, 8);
    inside(c, names);
  }

  private static void inside(Class<?> c, Set<String> names) {
    Due.that("at most twelve classes", c.getDeclaredClasses().length < 12);
    for (Method m : c.getDeclaredMethods()) {
      Due.that(m + " bears no public name", Modifier.isPublic(m.getModifiers()) || !names.contains(m.getName()));
    }
    for (Class<?> in : c.getDeclaredClasses()) {
      Due.that(in + " is static and not public", Modifier.isStatic(in.getModifiers()) && !Modifier.isPublic(in.getModifiers()));
      int fields = 0;
      for (Field f : in.getDeclaredFields()) {
        boolean fixed = Modifier.isStatic(f.getModifiers());
        fields += fixed ? 0 : 1;
        Due.that(f + ": static fields are final", !fixed || Modifier.isFinal(f.getModifiers()));
      }
      Due.that(in + " has at most twenty fields", fields <= 20);
      for (Method m : in.getDeclaredMethods()) {
        Due.that(m + " bears no public name", !names.contains(m.getName()));
        Due.that(m + " has at most seven parameters", m.getParameterCount() <= 7);
      }
    }
  }

  private static void source() throws IOException {
    String source = Files.readString(SOURCE);
    String code = source.replaceAll("(?s)/\\*.*?\\*/", "").replaceAll("//[^\n]*", "");
    for (String word : RULED_OUT) {
      Matcher m = Pattern.compile(Character.isLetter(word.charAt(0)) ? "\\b" + word + "\\b" : word).matcher(code);
      Due.that("no " + word, !m.find());
    }
    Due.that("arrays alone are imported", code.replace("import java.util.Arrays;", "").indexOf("import") < 0);
    Due.that("signs 1 to 127", source.chars().allMatch(sign -> sign < 128));
    // what a call makes would be counted for every call of a run: so only what is made with the object is made
    Matcher made = Pattern.compile("(?m)^.*\\bnew .*$").matcher(code);
    while (made.find()) {
      String line = made.group().trim();
      Due.that("made with the object: " + line, line.startsWith("private final ") || line.matches("\\w+(\\[\\w+\\])? = new \\w+\\(.*\\);"));
    }
    int last = 0;
    String[] lines = code.split("\n");
    for (int i = 0; i < lines.length; i++) {
      if (lines[i].matches("\\s+\\}") && lines[i].indexOf('}') <= 8) {
        last = i;
      }
      Due.that("methods are short, line " + i, i - last <= 60);
    }
  }

  public static void main(String[] args) throws IOException {
    face();
    source();
    Due.end();
  }
}
