import java.lang.reflect.Method;
import java.util.Arrays;
import java.util.HashMap;
import java.util.List;
import java.util.Map;
import java.util.Random;

/** Runs of calls by lot, on ArguedFerry and on FerryModel: they must answer alike. The seeds are told, so that runs are the same each time. */
public final class ModelTest {
  private static final int RUNS = 3000;
  /** An object takes 512 calls; a turn of a run makes at most some 70. */
  private static final int LAST_TURN_FROM = 512 - 70;
  /** Each call with the least and the most of what each of its numbers should mostly be. */
  private static final String[] CALLS = {
    "one 0 5 0 1", "one 0 5 0 1", "told 0 8 0 3", "told 0 4 0 3", "view 0 8 0 5", "believes 0 8 0 5 -3 3", "believes 0 4 0 5 -3 3",
    "as 0 8 0 5", "turns 0 8 0 5", "set 0 8 1 2 0 99", "set 0 4 1 1 0 1", "set 0 4 2 2 0 99", "rule 0 0 0 9", "rule 0 0 0 2", "rule 1 1 1 99",
    "deal 1 3", "seed -99999 99999", "boat 0 4", "boat 1 4", "argues 0 8 0 8 0 5 0 3", "argues 0 3 0 3 0 5 0 3", "minutes 1 10", "minutes 1 100",
    "ferry 0 5", "ferry 0 5", "over 0 8 0 8 0 5", "over 0 3 0 3 0 5", "settles 0 8 0 8 0 1", "settles 0 3 0 3 0 1", "pairs 0 1",
    "behind 0 100 0 13", "lands 0 8", "lands 0 4", "calm 1 60 0 1", "becomes 0 8 1 60 0 1", "becomes 0 3 1 60 0 1", "like 0 3 0 1", "like 0 3 0 1",
    "fee", "fine 0 8", "feed 0 99999 0 99999 0 99999", "trim 0 96", "text", "textTold 0 13 0 1", "why 0 2",
    "sheet 0 3 0 1 0 24", "sheet 0 3 -1 1 0 24", "sheet 0 3 0 1 1 9", "mark 0 3 0 23 -99 99", "mark 0 3 0 9 0 1", "mark 0 3 0 9 0 30", "mark 0 3 0 9 -99999 99999", "mark 0 3 0 5 -1000000005 -1000000005", "mark 0 3 0 5 -1000000005 -1000000005",
    "pour 0 3", "reads 0 3", "copy 0 3 0 9 0 3 0 9 0 9", "copy 0 3 0 24 0 3 0 24 0 24",
    "lay 0 4 0 3 0 8", "lay 0 4 1 3 0 3", "lay 0 4 2 2 0 3", "lay 0 4 3 3 -99999 99999", "ask 0 4 0 5", "ask 0 4 0 1", "item 0 4 0 23", "item 0 4 0 9", "rest 0 4 -9 9",
    "tell 0 9", "check 1 30", "keep", "back", "count 0 7", "count 0 7"};
  private static final int[] EXTREMES = {Integer.MIN_VALUE, Integer.MAX_VALUE, Integer.MIN_VALUE + 1, -1000000005, -1, 0, 1, 65535, 32768, 100000, 512};

  private final Map<String, Method> methods = new HashMap<>();
  private Random lot;
  private ArguedFerry ferry;
  private FerryModel model;
  private String run;
  private int calls;

  private int call(String name, int... a) throws ReflectiveOperationException {
    calls++;
    Object[] boxed = Arrays.stream(a).boxed().toArray();
    int got = (Integer) methods.get(name).invoke(ferry, boxed);
    Due.is(run + name + Arrays.toString(a), got, model.call(name, a));
    return got;
  }

  private int number(int least, int most) {
    int how = lot.nextInt(60);
    if (how == 0) {
      return EXTREMES[lot.nextInt(EXTREMES.length)];
    }
    if (how == 1) {
      return least - 1;
    }
    if (how == 2) {
      return most + 1;
    }
    return least + lot.nextInt(most - least + 1);
  }

  private void callByLot() throws ReflectiveOperationException {
    String[] words = CALLS[lot.nextInt(CALLS.length)].split(" ");
    int[] a = new int[words.length / 2];
    for (int i = 0; i < a.length; i++) {
      a[i] = number(Integer.parseInt(words[1 + 2 * i]), Integer.parseInt(words[2 + 2 * i]));
    }
    call(words[0], a);
  }

  private String expression(int depth, String names) {
    int how = lot.nextInt(depth > 0 ? 9 : 3);
    String blank = lot.nextInt(4) == 0 ? " " : "";
    if (how < 2) {
      return blank + names.charAt(lot.nextInt(names.length())) + blank;
    }
    if (how == 2) {
      return blank + lot.nextInt(lot.nextInt(4) == 0 ? 10000 : 10) + blank;
    }
    if (how == 3) {
      return "!" + blank + expression(0, names);
    }
    if (how == 4) {
      return "(" + expression(depth - 1, names) + blank + ")";
    }
    if (how == 5) {
      return "!(" + expression(depth - 1, names) + blank + ")";
    }
    return expression(depth - 1, names) + "|&<=>+-*/+-*/".charAt(lot.nextInt(13)) + expression(depth - 1, names);
  }

  private String textByLot() {
    int key = lot.nextInt(3);
    String text = List.of("speech", "fee", "fine").get(key) + " " + expression(lot.nextInt(5), List.of("dtn", "cs", "tb").get(key));
    if (lot.nextInt(8) == 0) {
      text = "  " + text.replace(" ", "") + " ";
    }
    StringBuilder changed = new StringBuilder(text);
    for (int i = lot.nextInt(6); i > 4; i = lot.nextInt(6)) {
      int at = lot.nextInt(changed.length() + 1);
      if (lot.nextBoolean() && at < changed.length()) {
        changed.deleteCharAt(at);
      } else {
        changed.insert(at, "|&<=>+-*/!()019dtncsbx A#\u00e9".charAt(lot.nextInt(26)));
      }
    }
    return changed.length() > 96 ? changed.substring(0, 96) : changed.toString();
  }

  private String nestedByLot() {
    StringBuilder text = new StringBuilder("fee ");
    int opened = 0;
    for (int i = 0; i < 18 && lot.nextInt(20) > 0; i++) {
      boolean bracket = lot.nextBoolean();
      opened += bracket ? 1 : 0;
      text.append(bracket ? "(" : "!");
      if (lot.nextInt(12) == 0) {
        text.append("!(c)+");
      }
    }
    text.append("s");
    for (int i = 0; i < opened + lot.nextInt(12) / 11; i++) {
      text.append(")");
    }
    return text.toString();
  }

  private void tellText(String text) throws ReflectiveOperationException {
    int length = call("count", 6);
    for (int from = 0; from < text.length(); from += 12) {
      int[] fours = new int[3];
      for (int i = 0; i < 12; i++) {
        int sign = from + i < text.length() ? text.charAt(from + i) : lot.nextInt(256);
        fours[i / 4] = fours[i / 4] << 8 | sign;
      }
      call("feed", fours);
    }
    call("trim", length + text.length());
    call("text");
  }

  private void tellMinutes() throws ReflectiveOperationException {
    int n = 1 + lot.nextInt(lot.nextBoolean() ? 5 : 30);
    call("check", 0);
    List<Integer> told = model.minutesTold(n);
    int wrongAt = lot.nextInt(Math.max(1, 3 * told.size()));
    int many = told.size() - (lot.nextInt(6) == 0 ? 1 : 0);
    for (int i = 0; i < many; i++) {
      call("tell", told.get(i) + (i == wrongAt ? 1 : 0));
    }
    if (lot.nextInt(6) == 0) {
      call("tell", 0);
    }
    call("check", n);
  }

  private void oneRun(int seed) throws ReflectiveOperationException {
    lot = new Random(seed);
    ferry = new ArguedFerry();
    model = new FerryModel();
    calls = 0;
    if (lot.nextInt(4) > 0) {
      call("seed", lot.nextInt());
      call("deal", 1 + lot.nextInt(9));
    }
    int many = 1 + lot.nextInt(400);
    for (int i = 0; i < many && calls <= LAST_TURN_FROM; i++) {
      run = "run " + seed + ", turn " + i + ": ";
      int how = lot.nextInt(60);
      if (how < 2) {
        tellText(textByLot());
      } else if (how == 2) {
        tellText(nestedByLot());
      } else if (how == 3) {
        tellMinutes();
      } else {
        callByLot();
      }
    }
  }

  public static void main(String[] args) throws ReflectiveOperationException {
    ModelTest test = new ModelTest();
    for (Method m : ArguedFerry.class.getDeclaredMethods()) {
      test.methods.put(m.getName(), m);
    }
    int runs = args.length > 0 ? Integer.parseInt(args[0]) : RUNS;
    for (int seed = 0; seed < runs; seed++) {
      test.run = "run " + seed + ": ";
      test.oneRun(seed);
    }
    Due.end();
  }
}
