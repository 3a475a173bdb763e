/** Promises 31 to 39: sheet, mark, pour, reads, copy, lay, ask, item, rest. */
public final class SheetsTest {
  private static final int BAD = ArguedFerry.BAD, NO = ArguedFerry.NO, NONE = ArguedFerry.NONE;
  private static final int NOTHING = ArguedFerry.NOTHING, KIND = ArguedFerry.KIND, INDEX = ArguedFerry.INDEX, SIZE = ArguedFerry.SIZE;
  private static final int[] WRONG_SHEETS = {-1, 4, Integer.MIN_VALUE, Integer.MAX_VALUE};
  private static final int[] WRONG_SLOTS = {-1, 5, Integer.MIN_VALUE, Integer.MAX_VALUE};

  /** What a sheet holds, told through a slot. */
  private static void holds(ArguedFerry x, String when, int sheet, int... due) {
    x.lay(4, 2, sheet);
    for (int place = 0; place < due.length; place++) {
      Due.is(when + ", place " + place, x.item(4, place), due[place]);
    }
    Due.is(when + ", behind the last place", x.item(4, due.length), INDEX);
  }

  private static void sheet() {
    ArguedFerry x = new ArguedFerry();
    Due.is("shorts", x.sheet(0, 0, 24), 24);
    Due.is("floats", x.sheet(3, 1, 0), 0);
    holds(x, "no places", 3);
    Due.is("25", x.sheet(0, 0, 25), BAD);
    Due.is("most", x.sheet(0, 1, Integer.MAX_VALUE), BAD);
    Due.is("-1", x.sheet(0, 0, -1), SIZE);
    Due.is("least", x.sheet(0, 1, Integer.MIN_VALUE), SIZE);
    Due.is("sort", x.sheet(0, 2, 1), BAD);
    Due.is("sort", x.sheet(0, -2, 1), BAD);
    Due.is("sort, ahead of size", x.sheet(0, 2, -1), BAD);
    for (int wrong : WRONG_SHEETS) {
      Due.is("sheet", x.sheet(wrong, 0, 1), BAD);
      Due.is("sheet, ahead of size", x.sheet(wrong, 0, -1), BAD);
      Due.is("sheet", x.sheet(wrong, -1, 1), BAD);
    }
    Due.is("it stayed", x.mark(0, 23, 9), 1);
    Due.is("anew", x.sheet(0, 0, 24), 24);
    holds(x, "all 0", 0, new int[24]);
    Due.is("missing", x.sheet(0, -1, 99), 0);
    Due.is("missing", x.mark(0, 0, 0), NOTHING);
    Due.is("missing", x.sheet(1, -1, -5), 0);
  }

  private static void mark() {
    ArguedFerry x = new ArguedFerry();
    x.sheet(0, 0, 4);
    x.sheet(1, 1, 4);
    Due.is("mark", x.mark(0, 0, 65536 + 7), 1);
    Due.is("mark", x.mark(0, 1, 32768), 1);
    Due.is("mark", x.mark(0, 2, Integer.MAX_VALUE), 1);
    Due.is("mark", x.mark(0, 3, -5), 1);
    holds(x, "shorts", 0, 7, -32768, -1, -5);
    Due.is("mark", x.mark(1, 0, 99999), 1);
    Due.is("mark", x.mark(1, 1, -99999), 1);
    Due.is("mark", x.mark(1, 2, NONE), 1);
    Due.is("mark", x.mark(1, 3, 5), 1);
    holds(x, "floats", 1, 99999, -99999, KIND, 5);
    Due.is("a number again", x.mark(1, 2, 0), 1);
    Due.is("none in shorts", x.mark(0, 0, NONE), KIND);
    Due.is("v", x.mark(1, 0, 100000), BAD);
    Due.is("v", x.mark(1, 0, -100000), BAD);
    Due.is("v", x.mark(1, 0, Integer.MIN_VALUE), BAD);
    for (int wrong : new int[] {-1, 4, Integer.MIN_VALUE, Integer.MAX_VALUE}) {
      Due.is("sheet", x.mark(wrong, 0, 0), BAD);
      Due.is("place", x.mark(0, wrong, 0), INDEX);
      Due.is("place, ahead of kind", x.mark(0, wrong, NONE), INDEX);
      Due.is("place, ahead of v", x.mark(1, wrong, 100000), INDEX);
      Due.is("nothing, ahead of place", x.mark(2, wrong, 100000), NOTHING);
    }
    holds(x, "shorts", 0, 7, -32768, -1, -5);
    holds(x, "floats", 1, 99999, -99999, 0, 5);
  }

  private static void pour() {
    ArguedFerry x = new ArguedFerry();
    for (int one = 0; one < 5; one++) {
      x.one(one, 0);
      x.set(one, 2, 10 * one);
    }
    x.sheet(0, 1, 4);
    x.mark(0, 0, -7);
    x.mark(0, 1, 100);
    x.mark(0, 2, NONE);
    x.mark(0, 3, 31);
    Due.is("pour", x.pour(0), 2);
    int[] tempers = {0, 99, 20, 31, 40};
    for (int one = 0; one < 5; one++) {
      Due.is("temper", x.told(one, 2), tempers[one]);
    }
    Due.is("again", x.pour(0), 0);
    x.sheet(1, 0, 24);
    Due.is("more places than passengers", x.pour(1), 4);
    Due.is("all cool", x.ferry(5), 0);
    x.minutes(1);
    x.mark(1, 0, 9);
    Due.is("one aboard, too", x.pour(1), 1);
    ArguedFerry nine = new ArguedFerry();
    nine.deal(9);
    nine.sheet(0, 0, 24);
    for (int place = 0; place < 24; place++) {
      nine.mark(0, place, 50 + place);
    }
    Due.is("all nine", nine.pour(0), 9);
    Due.is("all nine", nine.ferry(5), 9 * 50 + 36);
    Due.is("missing", x.pour(2), NOTHING);
    for (int wrong : WRONG_SHEETS) {
      Due.is("sheet", x.pour(wrong), BAD);
    }
  }

  private static void reads() {
    ArguedFerry x = new ArguedFerry();
    x.one(0, 0);
    x.one(0, 1);
    x.one(0, 0);
    x.sheet(0, 1, 5);
    Due.is("place 1 is not 0", x.reads(0), 1);
    x.mark(0, 1, 1);
    Due.is("place 3 is nobody", x.reads(0), 3);
    x.mark(0, 3, NONE);
    Due.is("place 4 is nobody", x.reads(0), 4);
    x.mark(0, 4, NONE);
    Due.is("all are", x.reads(0), NONE);
    x.minutes(1);
    Due.is("aboard", x.reads(0), 0);
    x.mark(0, 0, 2);
    x.mark(0, 2, 2);
    Due.is("aboard is 2", x.reads(0), NONE);
    x.sheet(0, 0, 0);
    Due.is("no places", x.reads(0), NONE);
    Due.is("missing", x.reads(1), NOTHING);
    for (int wrong : WRONG_SHEETS) {
      Due.is("sheet", x.reads(wrong), BAD);
    }
  }

  private static void copy() {
    ArguedFerry x = new ArguedFerry();
    x.sheet(0, 0, 5);
    x.sheet(1, 0, 3);
    x.sheet(2, 1, 5);
    for (int place = 0; place < 5; place++) {
      x.mark(0, place, place + 1);
    }
    Due.is("copy", x.copy(0, 2, 1, 0, 3), 3);
    holds(x, "copied", 1, 3, 4, 5);
    Due.is("copy", x.copy(0, 0, 0, 1, 4), 4);
    holds(x, "as they were", 0, 1, 1, 2, 3, 4);
    Due.is("copy", x.copy(0, 1, 0, 0, 4), 4);
    holds(x, "as they were", 0, 1, 2, 3, 4, 4);
    Due.is("none at the end", x.copy(0, 5, 1, 3, 0), 0);
    int[][] off = {{0, 0, 1, 0, 4}, {0, 3, 1, 0, 3}, {0, 0, 1, 1, 3}, {0, -1, 1, 0, 1}, {0, 0, 1, -1, 1}, {0, 0, 1, 0, -1}, {0, 6, 1, 0, 0}, {0, 0, 1, 4, 0},
      {0, Integer.MAX_VALUE, 1, 0, 1}, {0, 1, 1, 0, Integer.MAX_VALUE}, {0, 0, 1, Integer.MAX_VALUE, Integer.MAX_VALUE}, {0, 0, 1, 0, Integer.MIN_VALUE}};
    for (int[] a : off) {
      Due.is("places " + java.util.Arrays.toString(a), x.copy(a[0], a[1], a[2], a[3], a[4]), INDEX);
    }
    Due.is("sorts, ahead of places", x.copy(0, 9, 2, 0, 1), KIND);
    Due.is("sorts", x.copy(2, 0, 0, 0, 1), KIND);
    Due.is("missing, ahead of places", x.copy(3, 9, 0, 0, 1), NOTHING);
    Due.is("missing", x.copy(0, 0, 3, 0, 1), NOTHING);
    for (int wrong : WRONG_SHEETS) {
      Due.is("from", x.copy(wrong, 0, 0, 0, 1), BAD);
      Due.is("to", x.copy(0, 0, wrong, 0, 1), BAD);
      Due.is("to, ahead of missing", x.copy(3, 0, wrong, 0, 1), BAD);
    }
    holds(x, "nothing else changed", 0, 1, 2, 3, 4, 4);
    x.mark(2, 0, NONE);
    Due.is("no number", x.copy(2, 0, 2, 3, 2), 2);
    holds(x, "no number", 2, KIND, 0, 0, KIND, 0);
  }

  private static void lay() {
    ArguedFerry x = new ArguedFerry();
    x.one(1, 0);
    x.sheet(0, 0, 2);
    Due.is("held nothing", x.lay(0, 1, 0), 0);
    Due.is("held a passenger", x.lay(0, 2, 0), 1);
    Due.is("held a sheet", x.lay(0, 3, Integer.MIN_VALUE), 2);
    Due.is("held a number", x.lay(0, 0, 12345), 3);
    Due.is("held nothing", x.lay(0, 3, 9), 0);
    Due.is("passenger 1", x.lay(0, 1, 1), BAD);
    Due.is("passenger -1", x.lay(0, 1, -1), BAD);
    Due.is("thing", x.lay(0, 4, 0), BAD);
    Due.is("thing", x.lay(0, -1, 0), BAD);
    for (int wrong : WRONG_SHEETS) {
      Due.is("sheet", x.lay(0, 2, wrong), BAD);
    }
    for (int wrong : WRONG_SLOTS) {
      Due.is("slot", x.lay(wrong, 3, 0), BAD);
      Due.is("slot, ahead of missing", x.lay(wrong, 2, 1), BAD);
    }
    Due.is("missing", x.lay(0, 2, 1), NOTHING);
    Due.is("the number stays", x.rest(0, 5), 4);
  }

  private static void ask() {
    ArguedFerry x = new ArguedFerry();
    for (int kind = 0; kind < 6; kind++) {
      x.one(kind, 0);
      x.set(kind, 2, 20);
    }
    int[] worths = {20, 24, 100, 48, 94, 3};
    int[] kindsOf = {1, 3, 5, 11, 21, 33};
    for (int one = 0; one < 6; one++) {
      x.lay(one % 5, 1, one);
      for (int kind = 0; kind < 6; kind++) {
        Due.is("ask " + one + " as " + kind, x.ask(one % 5, kind), (kindsOf[one] >> kind & 1) == 1 ? worths[one] : KIND);
      }
    }
    x.set(1, 2, 99);
    x.turns(1, 5);
    Due.is("as it was then", x.ask(1, 1), 24);
    x.keep();
    x.back();
    Due.is("for good", x.ask(1, 1), 24);
    Due.is("kind", x.ask(1, 6), BAD);
    Due.is("kind", x.ask(1, -1), BAD);
    x.lay(0, 0, 0);
    Due.is("nothing", x.ask(0, 0), NOTHING);
    Due.is("kind, ahead of nothing", x.ask(0, 6), BAD);
    x.lay(0, 3, 1);
    Due.is("a number", x.ask(0, 0), KIND);
    x.sheet(0, 0, 1);
    x.lay(0, 2, 0);
    Due.is("a sheet", x.ask(0, 0), KIND);
    for (int wrong : WRONG_SLOTS) {
      Due.is("slot", x.ask(wrong, 0), BAD);
    }
  }

  private static void item() {
    ArguedFerry x = new ArguedFerry();
    x.one(0, 0);
    x.sheet(0, 1, 3);
    x.mark(0, 1, 88);
    x.mark(0, 2, NONE);
    Due.is("nothing", x.item(0, 0), NOTHING);
    Due.is("nothing, ahead of place", x.item(0, -1), NOTHING);
    x.lay(0, 2, 0);
    x.mark(0, 1, 77);
    x.sheet(0, -1, 0);
    Due.is("a row of its own", x.item(0, 1), 88);
    Due.is("no number", x.item(0, 2), KIND);
    for (int wrong : new int[] {-1, 3, 24, Integer.MIN_VALUE, Integer.MAX_VALUE}) {
      Due.is("place", x.item(0, wrong), INDEX);
    }
    x.lay(0, 1, 0);
    Due.is("a passenger", x.item(0, 0), KIND);
    Due.is("a passenger, ahead of place", x.item(0, -1), KIND);
    x.lay(0, 3, 0);
    Due.is("a number", x.item(0, 0), KIND);
    for (int wrong : WRONG_SLOTS) {
      Due.is("slot", x.item(wrong, 0), BAD);
    }
  }

  private static void rest() {
    ArguedFerry x = new ArguedFerry();
    x.one(0, 0);
    x.sheet(0, 0, 1);
    Due.is("nothing", x.rest(0, 0), NOTHING);
    x.lay(0, 3, 17);
    Due.is("rest", x.rest(0, 5), 2);
    Due.is("rest", x.rest(0, -5), 2);
    Due.is("by 0", x.rest(0, 0), NO);
    x.lay(0, 3, -17);
    Due.is("rest", x.rest(0, 5), -2);
    x.lay(0, 3, Integer.MIN_VALUE);
    Due.is("rest", x.rest(0, -1), 0);
    Due.is("rest", x.rest(0, Integer.MAX_VALUE), -1);
    x.lay(0, 1, 0);
    Due.is("a passenger, ahead of 0", x.rest(0, 0), KIND);
    x.lay(0, 2, 0);
    Due.is("a sheet", x.rest(0, 3), KIND);
    for (int wrong : WRONG_SLOTS) {
      Due.is("slot", x.rest(wrong, 0), BAD);
    }
  }

  public static void main(String[] args) {
    sheet();
    mark();
    pour();
    reads();
    copy();
    lay();
    ask();
    item();
    rest();
    Due.end();
  }
}
