import java.util.HashMap;
import java.util.LinkedHashSet;
import java.util.List;
import java.util.Map;
import java.util.Set;

/** Calls that are refused: what they answer, of several refusals the first one, and that they change nothing. */
final class RefusedEdges {
  /**
   * Of each call the least and the most that a number of it may be, the others being right: what is outside is
   * refused, as told ahead of the scene; the least and the most are not.
   */
  private static final String[] BOUNDS = {
    "BAD rich one 0:5 0", "BAD rich one 0 0:1", "BAD new one 0:5 1", "BAD new one 5 0:1",
    "BAD rich told 0:5 0", "BAD full told 0:8 3", "BAD rich told 5 0:3",
    "BAD rich view 0:5 0", "BAD full view 0:8 5", "BAD rich view 0 0:5",
    "BAD rich believes 0:5 0 3", "BAD full believes 0:8 0 3", "BAD rich believes 0 0:5 3", "BAD rich believes 0 0 -3:3",
    "BAD rich as 0:5 0", "BAD full as 0:8 0", "BAD rich as 5 0:5",
    "BAD rich turns 0:5 1", "BAD full turns 0:8 1", "BAD rich turns 3 0:5",
    "BAD rich set 0:5 2 50", "BAD full set 0:8 2 50", "BAD rich set 5 1:2 1", "BAD rich set 5 1 0:1", "BAD rich set 5 2 0:99",
    "BAD rich rule 0:1 1", "BAD rich rule 0 0:9", "BAD rich rule 1 1:99",
    "BAD rich deal 1:9", "BAD full deal 1:9", "BAD new deal 1:9",
    "BAD rich boat 0:4", "BAD new boat 0:4",
    "BAD rich argues 1:5 0 0 0", "BAD rich argues 0 1:5 0 0", "BAD full argues 1:8 0 0 3", "BAD full argues 0 1:8 0 3",
    "BAD rich argues 0 1 0:5 0", "BAD rich argues 0 1 0 0:3",
    "BAD rich minutes 1:100", "BAD new minutes 1:100",
    "BAD rich ferry 0:5", "BAD new ferry 0:5",
    "BAD rich over 1:5 0 0", "BAD rich over 0 1:5 0", "BAD full over 1:8 0 0", "BAD full over 0 1:8 0", "BAD rich over 0 1 0:5",
    "BAD rich settles 1:5 0 0", "BAD rich settles 0 1:5 0", "BAD full settles 1:8 0 0", "BAD full settles 0 1:8 0", "BAD rich settles 0 1 0:1",
    "BAD rich pairs 0:1", "BAD new pairs 0:1",
    "BAD rich behind 0:100 0", "BAD rich behind 0 0:10", "BAD full behind 9 0:13", "BAD new behind 0 0:4",
    "BAD rich lands 0:5", "BAD full lands 0:8",
    "BAD rich calm 1:60 0", "BAD rich calm 1 0:1", "BAD new calm 1:60 1",
    "BAD rich becomes 0:5 1 0", "BAD full becomes 0:8 1 0", "BAD rich becomes 0 1:60 0", "BAD rich becomes 0 1 0:1",
    "BAD rich like 0:3 0", "BAD rich like 0 0:1", "BAD full like 0:3 1",
    "BAD rich fine 0:5", "BAD full fine 0:8",
    "BAD rich trim 0:7", "BAD full trim 0:96", "BAD new trim 0:0",
    "BAD rich textTold 0:3 0", "BAD full textTold 0:13 1", "BAD rich textTold 0 0:1",
    "BAD rich why 0:2", "BAD new why 0:2",
    "BAD rich sheet 0:3 0 1", "BAD rich sheet 0:3 -1 1", "BAD rich sheet 0 -1:1 1",
    "BAD rich mark 0:3 0 0", "BAD rich mark 1 0 -99999:99999", "BAD rich mark 1 2 -99999:99999",
    "BAD rich pour 0:3", "BAD rich reads 0:3",
    "BAD rich copy 0:3 0 0 0 1", "BAD rich copy 0 0 0:3 0 1",
    "BAD rich lay 0:4 3 9", "BAD rich lay 0 0:3 0", "BAD rich lay 0 1 0:5", "BAD full lay 0 1 0:8", "BAD full lay 0 2 0:3",
    "BAD rich ask 0:4 0", "BAD rich ask 1 0:5", "BAD rich item 0:4 0", "BAD rich rest 0:4 7",
    "BAD rich check 1:30", "BAD new check 1:30",
    "BAD rich count 0:7", "BAD new count 0:7",
    "INDEX rich mark 0 0:4 9", "INDEX rich mark 1 0:3 9", "INDEX full mark 2 0:23 9", "INDEX full mark 3 0:23 9",
    "INDEX rich item 2 0:4", "INDEX rich item 4 0:3", "INDEX full item 1 0:23",
    "INDEX rich copy 0 0:5 0 0 0", "INDEX rich copy 0 0:4 0 0 1", "INDEX rich copy 0 0 0 0:5 0", "INDEX rich copy 0 0 0 0:4 1",
    "INDEX rich copy 0 0 0 0 0:5", "INDEX rich copy 0 2 0 0 0:3", "INDEX rich copy 0 0 0 2 0:3", "INDEX full copy 0 0 2 0 0:24",
    "INDEX full copy 1 0:23 3 0 1", "INDEX full copy 1 0 3 0:23 1"};

  /** In an object without passengers there is nobody to ask of. */
  private static final String[] NOBODY = {"told 0 0", "view 0 0", "believes 0 0 0", "as 0 0", "turns 0 0", "set 0 1 0", "set 0 2 0", "argues 0 1 0 0",
    "over 0 1 0", "settles 0 1 0", "behind 0 5", "lands 0", "becomes 0 1 0", "fine 0", "lay 0 1 0", "textTold 0 0"};

  /** What each refusal beside BAD asks for. */
  private static final String[] REFUSED = {
    "FULL full one 0 0", "FULL full one 5 1", "FULL full feed 0 0 0", "FULL full feed LEAST MOST -1", "FULL full tell 0", "FULL full tell NONE", "FULL full text",
    "NO rich set 0 1 0", "NO rich set 0 1 1", "NO rich set 1 1 0", "NO rich set 1 1 1", "NO rich rest 3 0", "NO new check 1", "NO new check 30", "NO new back",
    "KIND rich as 0 1", "KIND rich as 1 3", "KIND rich as 3 2", "KIND rich as 5 4", "KIND rich mark 0 0 NONE", "KIND rich mark 0 4 NONE",
    "KIND rich copy 0 0 1 0 1", "KIND rich copy 1 0 0 0 1", "KIND rich copy 1 0 3 0 0",
    "KIND rich ask 1 2", "KIND rich ask 1 4", "KIND rich ask 1 5", "KIND rich ask 2 0", "KIND rich ask 3 0",
    "KIND rich item 1 0", "KIND rich item 3 0", "KIND rich item 4 2", "KIND rich rest 1 7", "KIND rich rest 2 7",
    "NOTHING rich like 2 0", "NOTHING rich like 2 1", "NOTHING rich mark 2 0 0", "NOTHING rich pour 2", "NOTHING rich reads 2", "NOTHING rich copy 2 0 0 0 1",
    "NOTHING rich copy 0 0 2 0 1", "NOTHING rich copy 2 0 2 0 0", "NOTHING rich lay 0 2 2", "NOTHING rich lay 3 2 2", "NOTHING rich ask 0 0", "NOTHING rich item 0 0",
    "NOTHING rich rest 0 7", "SIZE rich sheet 0 0 -1", "SIZE rich sheet 1 1 -1", "SIZE rich sheet 2 0 LEAST", "SIZE full sheet 3 1 -24",
    "BAD rich sheet 0 0 25", "BAD rich sheet 2 1 25", "BAD rich sheet 2 0 MOST",
    "BAD rich argues 0 0 0 0", "BAD rich argues 5 5 5 3", "BAD rich over 0 0 0", "BAD rich over 5 5 5", "BAD rich settles 0 0 0", "BAD rich settles 5 5 1"};

  /** Calls for which there are several refusals, the first of which counts. */
  private static final String[] SEVERAL = {
    "BAD full one 6 0", "BAD full one 0 2", "BAD full one -1 -1",
    "BAD rich as 6 1", "BAD rich as 0 6", "BAD rich set 0 1 2", "BAD rich set 0 1 -1", "BAD rich set 6 1 0",
    "BAD rich like 4 0", "BAD rich like 2 2", "BAD new like 0 2", "BAD new like 4 0", "NOTHING new like 0 0", "NOTHING new like 3 1",
    "BAD rich sheet 4 0 -1", "BAD rich sheet 0 2 -1", "BAD rich sheet -1 -2 -1", "BAD rich sheet 0 -2 LEAST",
    "BAD rich mark 4 -1 NONE", "BAD rich mark -1 0 0", "NOTHING rich mark 2 -1 NONE", "NOTHING rich mark 2 24 100000", "NOTHING rich mark 2 0 NONE",
    "INDEX rich mark 0 5 NONE", "INDEX rich mark 0 -1 NONE", "INDEX rich mark 1 4 100000", "INDEX rich mark 1 -1 LEAST", "INDEX rich mark 3 0 NONE",
    "BAD rich copy 4 0 2 0 1", "BAD rich copy 2 0 4 0 1", "BAD rich copy 2 -1 -1 -1 -1", "BAD rich copy 1 0 4 0 1", "BAD rich copy -1 9 0 9 9",
    "NOTHING rich copy 2 -1 0 0 1", "NOTHING rich copy 1 0 2 9 9", "NOTHING rich copy 0 0 2 0 -1", "KIND rich copy 0 9 1 0 1", "KIND rich copy 1 0 0 9 1",
    "KIND rich copy 0 0 1 0 -1", "KIND rich copy 0 0 1 0 MOST",
    "BAD rich lay 5 2 2", "BAD rich lay -1 2 2", "BAD rich lay 0 4 2", "BAD rich lay 5 4 9",
    "BAD rich ask 5 0", "BAD rich ask 0 6", "BAD rich ask 0 -1", "BAD rich ask 2 6", "BAD rich ask 3 -1", "BAD rich ask 1 6",
    "BAD rich item 5 -1", "NOTHING rich item 0 -1", "NOTHING rich item 0 24", "KIND rich item 1 -1", "KIND rich item 3 24", "INDEX rich item 4 4",
    "BAD rich rest 5 0", "BAD rich rest -1 0", "NOTHING rich rest 0 0", "KIND rich rest 1 0", "KIND rich rest 2 0",
    "BAD new check 0", "BAD new check 31", "BAD new check LEAST",
    "BAD rich over 6 0 6", "BAD rich settles 0 0 2"};

  /** Calls that only ask: they change nothing, whatever they answer. */
  private static final String[] ASKED = {"told 0 3", "view 0 5", "as 3 1", "boat 1", "argues 0 1 0 1", "argues 2 3 4 3", "ferry 4", "over 0 1 2", "over 3 4 5", "over 5 2 0",
    "settles 0 1 0", "settles 4 2 1", "pairs 0", "pairs 1", "behind 100 0", "behind 7 4", "behind 50 5", "lands 0", "lands 5", "calm 60 0", "calm 9 1",
    "becomes 0 60 0", "becomes 3 9 1", "like 0 0", "like 1 1", "like 3 0", "fee", "fine 0", "textTold 1 1", "why 2", "reads 0", "ask 1 1", "item 2 1", "rest 3 10", "count 7"};

  private static final Map<String, List<Integer>> SEEN_BEFORE = new HashMap<>();
  /** Each scene with a call that was refused there. */
  private static final Set<String> WERE_REFUSED = new LinkedHashSet<>();

  private RefusedEdges() {
  }

  static void askAll() {
    sceneHolds();
    for (String bound : BOUNDS) {
      String[] words = bound.split(" ", 3);
      bounds(words[0], words[1], words[2]);
    }
    Sentence.of(1, "no PASSENGERS");
    for (String call : NOBODY) {
      refused("BAD", "new", call);
    }
    for (String line : REFUSED) {
      String[] words = line.split(" ", 3);
      Sentence.of(Sentence.promiseOf(Calls.name(words[2])), words[0]);
      refused(words[0], words[1], words[2]);
    }
    Sentence.ofTerms(0, "of several the one that stands first with it");
    for (String line : SEVERAL) {
      String[] words = line.split(" ", 3);
      refused(words[0], words[1], words[2]);
    }
    Sentence.ofTerms(0, "A call that is refused answers one of BAD, NO, FULL, or a FINDING");
    Sentence.ofTerms(0, "and changes nothing (but the tape and the numbers that wait, where told)");
    faultChangesNothing();
    for (String line : WERE_REFUSED) {
      String[] words = line.split(" ", 2);
      changesNothing(words[0], words[1]);
    }
    Sentence.ofTerms(3, "nothing changes");
    for (String call : ASKED) {
      changesNothing("rich", call);
    }
  }

  /** The rows of calls above count on what the scenes hold. */
  private static void sceneHolds() {
    ArguedFerry rich = Scenes.made("rich", true);
    Due.is("0 is aboard", rich.boat(2), 0);
    Due.is("1 is aboard", rich.boat(3), 1);
    Due.is("four numbers wait", rich.count(5), 4);
    Due.is("they are right", rich.check(2), 0);
    Due.is("the tape", rich.count(6), 7);
    Due.is("it is a text", rich.text(), 4);
    ArguedFerry full = Scenes.made("full", true);
    int[] counts = {9, 0, 1, 99, 14, 60, 96};
    for (int what = 0; what < counts.length; what++) {
      Due.is("full, count " + what, full.count(what), counts[what]);
    }
    Due.is("they are right", full.check(30), 0);
    Due.is("back", full.back(), 7);
    Due.is("the tape is a text", full.text(), 2);
  }

  private static void bounds(String due, String scene, String call) {
    String name = Calls.name(call);
    Sentence.of(Sentence.promiseOf(name), due);
    String[] words = call.split(" ");
    for (String word : words) {
      if (word.contains(":")) {
        int least = Integer.parseInt(word.split(":")[0]);
        int most = Integer.parseInt(word.split(":")[1]);
        for (int outside : new int[] {least - 1, most + 1, -1000000, 1000000, Integer.MIN_VALUE, Integer.MAX_VALUE, Integer.MIN_VALUE + least}) {
          refused(due, scene, call.replace(word, Integer.toString(outside)));
        }
        for (int inside : new int[] {least, most}) {
          String right = call.replace(word, Integer.toString(inside));
          Due.that(scene + ": " + right + " is not refused", Calls.make(Scenes.made(scene, true), right) != Calls.number(due));
        }
      }
    }
  }

  /** The tape of the rich scene is a text until one byte more stands behind it. */
  private static void faultChangesNothing() {
    for (int part = 0; part < Scenes.PARTS; part++) {
      ArguedFerry x = Scenes.made("rich", true);
      Due.feed(x, "+");
      Due.is("text", x.text(), -108);
      Due.that("a fault changes nothing of part " + part, Scenes.seen(x, part).equals(seenBefore("rich", "text", part)));
    }
  }

  private static void refused(String due, String scene, String call) {
    Calls.is(Scenes.made(scene, true), call, Calls.number(due));
    WERE_REFUSED.add(scene + " " + call);
  }

  private static void changesNothing(String scene, String call) {
    String name = Calls.name(call);
    for (int part = 0; part < Scenes.PARTS; part++) {
      ArguedFerry x = Scenes.made(scene, true);
      Calls.make(x, call);
      Due.that(scene + ": " + call + " changes nothing of part " + part, Scenes.seen(x, part).equals(seenBefore(scene, name, part)));
    }
  }

  /** What is seen without the call; but text uses the tape up, and no number waits behind check, whatever is answered. */
  private static List<Integer> seenBefore(String scene, String name, int part) {
    boolean reads = name.equals("text");
    boolean checks = name.equals("check");
    return SEEN_BEFORE.computeIfAbsent(scene + part + reads + checks, key -> {
      ArguedFerry x = Scenes.made(scene, !checks);
      if (reads) {
        x.trim(0);
      }
      return Scenes.seen(x, part);
    });
  }
}
