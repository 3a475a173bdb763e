import java.lang.reflect.Method;
import java.util.HashMap;
import java.util.Map;
import java.util.Set;

/** Makes calls that are told by texts, as "one 6 0". */
final class Calls {
  private static final Map<String, Method> METHODS = new HashMap<>();
  private static final Map<String, Integer> NAMED = new HashMap<>();

  static {
    for (Method m : ArguedFerry.class.getMethods()) {
      if (m.getDeclaringClass() == ArguedFerry.class) {
        METHODS.put(m.getName(), m);
      }
    }
    NAMED.put("LEAST", Integer.MIN_VALUE);
    NAMED.put("MOST", Integer.MAX_VALUE);
    NAMED.put("BAD", ArguedFerry.BAD);
    NAMED.put("NO", ArguedFerry.NO);
    NAMED.put("FULL", ArguedFerry.FULL);
    NAMED.put("NONE", ArguedFerry.NONE);
    NAMED.put("NOTHING", ArguedFerry.NOTHING);
    NAMED.put("KIND", ArguedFerry.KIND);
    NAMED.put("INDEX", ArguedFerry.INDEX);
    NAMED.put("SIZE", ArguedFerry.SIZE);
  }

  private Calls() {
  }

  /** A number by its digits, or by its name: LEAST and MOST of ints, or a constant of the document. */
  static int number(String word) {
    return NAMED.containsKey(word) ? NAMED.get(word) : Integer.parseInt(word);
  }

  static Set<String> names() {
    return METHODS.keySet();
  }

  static String name(String call) {
    return call.split(" ")[0];
  }

  static int make(ArguedFerry x, String call) {
    String[] words = call.split(" ");
    Object[] numbers = new Object[words.length - 1];
    for (int i = 0; i < numbers.length; i++) {
      numbers[i] = number(words[i + 1]);
    }
    try {
      return (Integer) METHODS.get(words[0]).invoke(x, numbers);
    } catch (ReflectiveOperationException e) {
      throw new IllegalStateException(call, e);
    }
  }

  static void is(ArguedFerry x, String call, int due) {
    Due.is(call, make(x, call), due);
  }
}
