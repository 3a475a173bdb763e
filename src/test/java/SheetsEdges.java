/** The edges of promises 31 to 39, and of what the terms say of sheets and slots. */
final class SheetsEdges {
  private static final int BAD = ArguedFerry.BAD, NO = ArguedFerry.NO, NONE = ArguedFerry.NONE;
  private static final int NOTHING = ArguedFerry.NOTHING, KIND = ArguedFerry.KIND, INDEX = ArguedFerry.INDEX, SIZE = ArguedFerry.SIZE;
  private static final int SHORTS = 0, FLOATS = 1, MISSING = -1;

  private SheetsEdges() {
  }

  static void askAll() {
    places();
    missing();
    shorts();
    floats();
    marksRefused();
    pour();
    pourWithoutPassengers();
    reads();
    copy();
    copyOutside();
    copyRefused();
    lay();
    forGood();
    ask();
    item();
    rest();
  }

  private static void holds(ArguedFerry x, String when, int sheet, int... due) {
    x.lay(4, 2, sheet);
    for (int place = 0; place < due.length; place++) {
      Due.is(when + ", place " + place, x.item(4, place), due[place]);
    }
    Due.is(when + ", behind the last place", x.item(4, due.length), INDEX);
  }

  /** A row of such places at a sheet. */
  private static void row(ArguedFerry x, int sheet, int sort, int... places) {
    Due.is("sheet", x.sheet(sheet, sort, places.length), places.length);
    for (int place = 0; place < places.length; place++) {
      Due.is("mark", x.mark(sheet, place, places[place]), 1);
    }
  }

  private static void places() {
    Sentence.ofTerms(5, "SHEETS 0 .. 3 are rows of shorts (sort 0) or floats (1; whole numbers)");
    ArguedFerry x = new ArguedFerry();
    Due.is("sheet 0", x.sheet(0, SHORTS, 1), 1);
    Due.is("sheet 3", x.sheet(3, FLOATS, 1), 1);
    Due.is("sheet 4", x.sheet(4, SHORTS, 1), BAD);
    Due.is("sheet -1", x.sheet(-1, SHORTS, 1), BAD);
    Due.is("of shorts", x.mark(0, 0, 99999), 1);
    Due.is("of floats", x.mark(3, 0, 99999), 1);
    holds(x, "of shorts", 0, 99999 - 131072);
    holds(x, "of floats", 3, 99999);
    Sentence.of(31, "A SHEET becomes a row of n places of a sort");
    Sentence.ofTerms(5, "with 0 to 24 places");
    for (int sort = 0; sort < 2; sort++) {
      for (int sheet = 0; sheet < 4; sheet++) {
        Due.is("none", x.sheet(sheet, sort, 0), 0);
        holds(x, "none", sheet);
        Due.is("24", x.sheet(sheet, sort, 24), 24);
        Due.is("the last place", x.mark(sheet, 23, 7), 1);
        Due.is("behind it", x.mark(sheet, 24, 7), INDEX);
      }
    }
    Sentence.ofTerms(5, "INDEX: there is no such place; SIZE: a number of places is below 0");
    Sentence.of(31, "BAD: sheet, sort, n above 24; SIZE");
    for (int sort = 0; sort < 2; sort++) {
      Due.is("25", x.sheet(0, sort, 25), BAD);
      Due.is("most", x.sheet(0, sort, Integer.MAX_VALUE), BAD);
      Due.is("-1", x.sheet(0, sort, -1), SIZE);
      Due.is("least", x.sheet(0, sort, Integer.MIN_VALUE), SIZE);
      Due.is("sheet 4", x.sheet(4, sort, -1), BAD);
    }
    Due.is("sort 2", x.sheet(0, 2, 0), BAD);
    Due.is("sort -2", x.sheet(0, -2, 0), BAD);
    Due.is("it stayed", x.mark(0, 23, 7), 1);
    Sentence.of(31, "all 0");
    for (int sort = 0; sort < 2; sort++) {
      row(x, 1, FLOATS, 5, NONE, 99999, -1);
      Due.is("anew", x.sheet(1, sort, 6), 6);
      holds(x, "anew", 1, 0, 0, 0, 0, 0, 0);
    }
    row(x, 2, SHORTS, 1, 2, 3, 4, 5);
    x.sheet(2, SHORTS, 2);
    x.sheet(2, SHORTS, 5);
    holds(x, "shorter, then longer again", 2, 0, 0, 0, 0, 0);
  }

  private static void missing() {
    Sentence.of(31, "(sort -1: MISSING, n any): n (0)");
    for (int n : new int[] {0, 1, 24, 25, -1, Integer.MIN_VALUE, Integer.MAX_VALUE}) {
      ArguedFerry x = new ArguedFerry();
      row(x, 3, SHORTS, 4, 5);
      Due.is("n " + n, x.sheet(3, MISSING, n), 0);
      Due.is("mark", x.mark(3, 0, 0), NOTHING);
      Due.is("again", x.sheet(3, MISSING, n), 0);
      Due.is("anew", x.sheet(3, FLOATS, 1), 1);
      holds(x, "anew", 3, 0);
    }
    Due.is("sheet 4", new ArguedFerry().sheet(4, MISSING, 0), BAD);
    Sentence.ofTerms(5, "NOTHING: a SHEET is MISSING, a SLOT holds nothing");
    ArguedFerry x = new ArguedFerry();
    x.one(0, 0);
    x.sheet(1, SHORTS, 1);
    for (int sheet : new int[] {0, 2, 3}) {
      Due.is("like", x.like(sheet, 0), NOTHING);
      Due.is("mark", x.mark(sheet, 0, 0), NOTHING);
      Due.is("pour", x.pour(sheet), NOTHING);
      Due.is("reads", x.reads(sheet), NOTHING);
      Due.is("copy from", x.copy(sheet, 0, 1, 0, 0), NOTHING);
      Due.is("copy to", x.copy(1, 0, sheet, 0, 0), NOTHING);
      Due.is("copy within", x.copy(sheet, 0, sheet, 0, 0), NOTHING);
      Due.is("lay", x.lay(0, 2, sheet), NOTHING);
    }
    for (int slot = 0; slot < 5; slot++) {
      Due.is("ask", x.ask(slot, 0), NOTHING);
      Due.is("item", x.item(slot, 0), NOTHING);
      Due.is("rest", x.rest(slot, 1), NOTHING);
    }
  }

  private static void shorts() {
    Sentence.of(32, "A place of a SHEET becomes v (of shorts its lowest 16 bits");
    int[] marks = {32767, 32768, 65535, 65536, 65537, -1, -32768, -32769, Integer.MIN_VALUE, Integer.MAX_VALUE, 99999, 100000, BAD, 0};
    int[] dues = {32767, -32768, -1, 0, 1, -1, -32768, 32767, 0, -1, -31073, -31072, 13823, 0};
    ArguedFerry x = new ArguedFerry();
    row(x, 0, SHORTS, marks);
    holds(x, "shorts", 0, dues);
    Sentence.of(32, "KIND: NONE in a row of shorts");
    for (int place = 0; place < 14; place++) {
      Due.is("none", x.mark(0, place, NONE), KIND);
      Due.is("one more than that is a number", x.mark(0, place, NONE + 1), 1);
      Due.is("one less than that is a number", x.mark(0, place, NONE - 1), 1);
    }
  }

  private static void floats() {
    Sentence.of(32, "of floats v, -99999 .. 99999; NONE: NO NUMBER");
    ArguedFerry x = new ArguedFerry();
    row(x, 0, FLOATS, 99999, -99999, 32768, 65536, -1, 0, NONE, 12345);
    holds(x, "floats", 0, 99999, -99999, 32768, 65536, -1, 0, KIND, 12345);
    Sentence.of(32, "BAD: v of floats");
    for (int v : new int[] {100000, -100000, Integer.MIN_VALUE, Integer.MAX_VALUE, NONE + 1, NONE - 1, BAD}) {
      for (int place = 0; place < 8; place++) {
        Due.is("v", x.mark(0, place, v), BAD);
      }
    }
    holds(x, "all stay", 0, 99999, -99999, 32768, 65536, -1, 0, KIND, 12345);
    Sentence.ofTerms(5, "A place of floats may be NO NUMBER");
    Due.is("a number again", x.mark(0, 6, 4), 1);
    Due.is("no number", x.mark(0, 0, NONE), 1);
    holds(x, "floats", 0, KIND, -99999, 32768, 65536, -1, 0, 4, 12345);
  }

  private static void marksRefused() {
    Sentence.of(32, "BAD: sheet; NOTHING; INDEX; KIND: NONE in a row of shorts; BAD: v of floats");
    ArguedFerry x = new ArguedFerry();
    x.sheet(0, SHORTS, 2);
    x.sheet(1, FLOATS, 2);
    Due.is("sheet", x.mark(4, 9, NONE), BAD);
    Due.is("missing", x.mark(2, 9, NONE), NOTHING);
    Due.is("place of shorts", x.mark(0, 2, NONE), INDEX);
    Due.is("place of shorts", x.mark(0, -1, NONE), INDEX);
    Due.is("place of floats", x.mark(1, 2, 100000), INDEX);
    Due.is("place of floats", x.mark(1, -1, 100000), INDEX);
    Due.is("none", x.mark(0, 1, NONE), KIND);
    Due.is("v", x.mark(1, 1, 100000), BAD);
  }

  private static void pour() {
    Sentence.of(33, "(each held within 0 .. 99; NO NUMBER, and beyond the SHEET: it stays)");
    ArguedFerry x = new ArguedFerry();
    for (int one = 0; one < 9; one++) {
      x.one(one % 6, 0);
      x.set(one, 2, 50);
    }
    row(x, 0, FLOATS, -1, 0, 99, 100, -99999, 99999, NONE, 50);
    Due.is("pour", x.pour(0), 6);
    int[] due = {0, 0, 99, 99, 0, 99, 50, 50, 50};
    for (int one = 0; one < 9; one++) {
      Due.is("temper of " + one, x.told(one, 2), due[one]);
    }
    Sentence.of(33, "how many are otherwise then");
    Due.is("again", x.pour(0), 0);
    x.set(4, 2, 1);
    Due.is("one is", x.pour(0), 1);
    row(x, 1, SHORTS, 32768, 32767);
    Due.is("shorts, held", x.pour(1), 1);
    Due.is("temper", x.told(0, 2) * 100 + x.told(1, 2), 99);
    x.sheet(2, SHORTS, 0);
    Due.is("no places", x.pour(2), 0);
    Due.is("temper of all stays", x.ferry(5), 99 + 99 + 99 + 99 + 150);
  }

  private static void pourWithoutPassengers() {
    Sentence.of(33, "TEMPER of PASSENGERS, by numbers, becomes the places of a SHEET from 0 on");
    ArguedFerry nobody = new ArguedFerry();
    nobody.sheet(0, SHORTS, 24);
    Due.is("nobody", nobody.pour(0), 0);
    nobody.one(0, 0);
    nobody.mark(0, 0, 12);
    nobody.mark(0, 1, 13);
    Due.is("more places than passengers", nobody.pour(0), 1);
    nobody.one(0, 0);
    Due.is("who came later stays", nobody.told(1, 2), 0);
    Due.is("until it is poured again", nobody.pour(0), 1);
    nobody.minutes(1);
    nobody.mark(0, 1, 14);
    Due.is("one aboard, too", nobody.pour(0), 1);
    Due.is("temper", nobody.told(1, 2), 14);
  }

  private static void reads() {
    Sentence.of(34, "NONE: there is none");
    ArguedFerry x = new ArguedFerry();
    x.sheet(0, SHORTS, 0);
    x.sheet(1, FLOATS, 24);
    Due.is("no places", x.reads(0), NONE);
    Sentence.of(34, "(of places that are no PASSENGER all numbers are not)");
    Due.is("nobody", x.reads(1), 0);
    for (int place = 0; place < 23; place++) {
      x.mark(1, place, NONE);
      Due.is("nobody", x.reads(1), place + 1);
    }
    Sentence.of(34, "(of numbers alone)");
    x.mark(1, 23, NONE);
    Due.is("no numbers", x.reads(1), NONE);
    Sentence.of(34, "The first place (of numbers alone) at which a SHEET is not BANK of that PASSENGER");
    for (int one = 0; one < 9; one++) {
      x.one(5, one % 2);
    }
    Due.is("no numbers", x.reads(1), NONE);
    for (int one = 8; one >= 0; one--) {
      x.mark(1, one, 1 - one % 2);
      Due.is("not the bank of " + one, x.reads(1), one);
    }
    for (int one = 0; one < 9; one++) {
      Due.is("not the bank of " + one, x.reads(1), one);
      x.mark(1, one, one % 2);
    }
    Due.is("all are", x.reads(1), NONE);
    x.mark(1, 9, 0);
    Due.is("there is no passenger 9", x.reads(1), 9);
    x.mark(1, 9, NONE);
    x.minutes(1);
    Due.is("0 is aboard", x.reads(1), 0);
    x.mark(1, 0, 2);
    Due.is("2 is aboard", x.reads(1), 2);
    x.mark(1, 2, 2);
    Due.is("all are", x.reads(1), NONE);
  }

  private static void copy() {
    Sentence.of(35, "(From a SHEET, its place, to a SHEET, its place.)");
    Sentence.of(35, "So many places of a SHEET come to another one (or the same), as they were: many");
    ArguedFerry x = new ArguedFerry();
    row(x, 0, SHORTS, 1, 2, 3, 4, 5);
    Due.is("up", x.copy(0, 0, 0, 1, 4), 4);
    holds(x, "up", 0, 1, 1, 2, 3, 4);
    row(x, 0, SHORTS, 1, 2, 3, 4, 5);
    Due.is("down", x.copy(0, 1, 0, 0, 4), 4);
    holds(x, "down", 0, 2, 3, 4, 5, 5);
    Due.is("all, to where they are", x.copy(0, 0, 0, 0, 5), 5);
    holds(x, "all", 0, 2, 3, 4, 5, 5);
    row(x, 1, SHORTS, 9, 9, 9);
    Due.is("to another one", x.copy(0, 2, 1, 0, 3), 3);
    holds(x, "to another one", 1, 4, 5, 5);
    holds(x, "of which it stays", 0, 2, 3, 4, 5, 5);
    row(x, 2, FLOATS, NONE, 99999, -99999);
    row(x, 3, FLOATS, 0, 0, NONE, 0);
    Due.is("no number", x.copy(2, 0, 3, 1, 3), 3);
    holds(x, "no number", 3, 0, KIND, 99999, -99999);
    Due.is("none", x.copy(2, 0, 3, 0, 0), 0);
    holds(x, "none", 3, 0, KIND, 99999, -99999);
    x.sheet(1, SHORTS, 24);
    x.sheet(0, SHORTS, 24);
    x.mark(0, 23, 77);
    Due.is("all 24", x.copy(0, 0, 1, 0, 24), 24);
    x.lay(4, 2, 1);
    Due.is("the last", x.item(4, 23), 77);
  }

  private static void copyOutside() {
    Sentence.of(35, "INDEX");
    ArguedFerry x = new ArguedFerry();
    row(x, 0, SHORTS, 1, 2, 3, 4, 5);
    row(x, 1, SHORTS, 6, 7, 8);
    int[][] outside = {{0, 5, 1, 0, 1}, {0, 4, 1, 0, 2}, {0, 3, 1, 0, 3}, {0, 0, 1, 0, 4}, {0, 0, 1, 1, 3}, {0, 0, 1, 2, 2}, {0, 0, 1, 3, 1}, {0, -1, 1, 0, 1}, {0, 0, 1, -1, 1},
      {0, -1, 1, 0, 0}, {0, 0, 1, -1, 0}, {0, 6, 1, 0, 0}, {0, 0, 1, 4, 0}, {0, 0, 1, 0, -1}, {0, 3, 1, 2, -1}, {0, 0, 1, 0, Integer.MIN_VALUE},
      {0, Integer.MAX_VALUE, 1, 0, 1}, {0, 1, 1, 0, Integer.MAX_VALUE}, {0, 0, 1, 1, Integer.MAX_VALUE}, {0, Integer.MAX_VALUE, 1, 0, Integer.MAX_VALUE},
      {0, 0, 1, Integer.MAX_VALUE, 2}, {0, Integer.MIN_VALUE, 1, 0, Integer.MAX_VALUE}, {0, 0, 1, Integer.MIN_VALUE, Integer.MIN_VALUE}, {0, 0, 0, 1, 5}, {0, 1, 0, 0, 5}};
    for (int[] a : outside) {
      Due.is("copy " + java.util.Arrays.toString(a), x.copy(a[0], a[1], a[2], a[3], a[4]), INDEX);
    }
    Due.is("none, right behind the last places", x.copy(0, 5, 1, 3, 0), 0);
    holds(x, "all stay", 0, 1, 2, 3, 4, 5);
    holds(x, "all stay", 1, 6, 7, 8);
  }

  private static void copyRefused() {
    Sentence.of(35, "BAD; NOTHING; KIND: they are not of one sort; INDEX");
    ArguedFerry x = new ArguedFerry();
    x.sheet(0, SHORTS, 3);
    x.sheet(1, FLOATS, 3);
    Due.is("from", x.copy(4, 9, 2, 9, 9), BAD);
    Due.is("to", x.copy(2, 9, 4, 9, 9), BAD);
    Due.is("missing", x.copy(2, 9, 0, 9, 9), NOTHING);
    Due.is("missing", x.copy(1, 9, 2, 9, 9), NOTHING);
    Due.is("sorts", x.copy(0, 9, 1, 9, 9), KIND);
    Due.is("sorts", x.copy(1, 9, 0, 9, -9), KIND);
    Due.is("sorts, though there is nothing to copy", x.copy(1, 0, 0, 0, 0), KIND);
    Due.is("places", x.copy(0, 9, 0, 9, 9), INDEX);
  }

  private static void lay() {
    Sentence.ofTerms(5, "SLOTS 0 .. 4");
    Sentence.of(36, "A SLOT holds: thing 0 nothing, 1 PASSENGER k, 2 SHEET k, 3 the number k: what it held (0 .. 3)");
    ArguedFerry x = new ArguedFerry();
    x.one(0, 0);
    x.sheet(0, SHORTS, 1);
    for (int was = 0; was < 4; was++) {
      for (int is = 0; is < 4; is++) {
        for (int slot = 0; slot < 5; slot++) {
          x.lay(slot, was, 0);
          Due.is(was + ", then " + is, x.lay(slot, is, 0), was);
          Due.is("as passenger", x.ask(slot, 0), is == 0 ? NOTHING : is == 1 ? 0 : KIND);
          Due.is("as sheet", x.item(slot, 0), is == 0 ? NOTHING : is == 2 ? 0 : KIND);
          Due.is("as number", x.rest(slot, 5), is == 0 ? NOTHING : is == 3 ? 0 : KIND);
        }
      }
    }
    Sentence.of(36, "BAD: slot, thing, k; NOTHING: that SHEET is MISSING");
    ArguedFerry y = new ArguedFerry();
    y.lay(0, 3, 8);
    Due.is("slot", y.lay(5, 0, 0), BAD);
    Due.is("slot", y.lay(-1, 3, 0), BAD);
    Due.is("thing", y.lay(0, 4, 0), BAD);
    Due.is("thing", y.lay(0, -1, 0), BAD);
    Due.is("no passenger 0", y.lay(0, 1, 0), BAD);
    Due.is("sheet 4", y.lay(0, 2, 4), BAD);
    Due.is("sheet -1", y.lay(0, 2, -1), BAD);
    Due.is("missing", y.lay(0, 2, 3), NOTHING);
    Due.is("it still holds", y.rest(0, 5), 3);
    for (int k : new int[] {-1, 9, Integer.MIN_VALUE, Integer.MAX_VALUE, NONE}) {
      Due.is("any number", y.lay(1, 3, k), 0);
      Due.is("it is that", y.rest(1, 1000), k % 1000);
      Due.is("nothing, by any number", y.lay(1, 0, k), 3);
    }
  }

  private static void forGood() {
    Sentence.ofTerms(5, "a PASSENGER (as it is then, for good)");
    ArguedFerry x = new ArguedFerry();
    x.one(3, 0);
    x.set(0, 2, 30);
    x.keep();
    x.lay(0, 1, 0);
    x.set(0, 2, 31);
    x.turns(0, 2);
    Due.is("as it was", x.ask(0, 3), 68);
    x.lay(1, 1, 0);
    Due.is("as it is", x.ask(1, 2), 89);
    x.back();
    Due.is("still", x.ask(0, 1), 68);
    Due.is("still", x.ask(1, 2), 89);
    Due.is("still not married", x.ask(1, 1), KIND);
    x.minutes(9);
    Due.is("still", x.ask(0, 1), 68);
    Sentence.ofTerms(5, "a SHEET (a row of its own, as it was then)");
    row(x, 0, FLOATS, 1, NONE, 3);
    x.lay(2, 2, 0);
    x.mark(0, 0, 9);
    x.mark(0, 1, 9);
    x.lay(3, 2, 0);
    Due.is("as it was", x.item(2, 0), 1);
    Due.is("as it was", x.item(2, 1), KIND);
    Due.is("as it is", x.item(3, 0), 9);
    x.copy(0, 2, 0, 0, 1);
    x.sheet(0, SHORTS, 1);
    Due.is("as it was", x.item(2, 2), 3);
    Due.is("as it was", x.item(3, 1), 9);
    x.sheet(0, MISSING, 0);
    Due.is("as it was", x.item(2, 2), 3);
    Due.is("behind its last place", x.item(2, 3), INDEX);
  }

  private static void ask() {
    Sentence.ofTerms(5, "KIND: it is none (of a KIND, a number, or another thing)");
    Sentence.of(37, "WORTH of the PASSENGER in a SLOT, taken for one of a KIND (0 .. 5)");
    Sentence.of(37, "KIND: it is no PASSENGER, or not of that KIND, nor of one under it");
    int[] above = {-1, 0, 0, 1, 2, 0};
    int[] worth = {99, 103, 21, 206, 15, 3};
    for (int kind = 0; kind < 6; kind++) {
      ArguedFerry x = new ArguedFerry();
      x.one(kind, 0);
      x.set(0, 2, 99);
      x.lay(2, 1, 0);
      for (int as = 0; as < 6; as++) {
        boolean under = as == kind || as == above[kind] || as == 0;
        Due.is(kind + " as " + as, x.ask(2, as), under ? worth[kind] : KIND);
      }
      x.lay(2, 3, kind);
      Due.is("a number", x.ask(2, 0), KIND);
    }
    Sentence.of(37, "BAD; NOTHING");
    ArguedFerry x = new ArguedFerry();
    Due.is("slot", x.ask(5, 0), BAD);
    Due.is("kind", x.ask(0, 6), BAD);
    Due.is("kind", x.ask(0, -1), BAD);
    Due.is("nothing", x.ask(0, 0), NOTHING);
  }

  private static void item() {
    Sentence.of(38, "BAD: slot; NOTHING; KIND: it is no SHEET; INDEX; KIND: NO NUMBER");
    ArguedFerry x = new ArguedFerry();
    x.one(0, 0);
    row(x, 0, FLOATS, 5, NONE);
    x.sheet(1, SHORTS, 0);
    Due.is("slot", x.item(5, 9), BAD);
    Due.is("slot", x.item(-1, 9), BAD);
    Due.is("nothing", x.item(0, 9), NOTHING);
    x.lay(0, 1, 0);
    Due.is("a passenger", x.item(0, 9), KIND);
    x.lay(0, 3, 0);
    Due.is("a number", x.item(0, 9), KIND);
    x.lay(0, 2, 0);
    Due.is("behind the last place", x.item(0, 2), INDEX);
    Due.is("ahead of the first place", x.item(0, -1), INDEX);
    Due.is("no number", x.item(0, 1), KIND);
    Sentence.of(38, "A place of the SHEET in a SLOT");
    Due.is("a number", x.item(0, 0), 5);
    x.lay(0, 2, 1);
    Due.is("no places", x.item(0, 0), INDEX);
  }

  private static void rest() {
    Sentence.of(39, "BAD: slot; NOTHING; KIND: it is no number; NO: n is 0");
    ArguedFerry x = new ArguedFerry();
    x.one(0, 0);
    x.sheet(0, SHORTS, 1);
    Due.is("slot", x.rest(5, 0), BAD);
    Due.is("slot", x.rest(-1, 0), BAD);
    Due.is("nothing", x.rest(0, 0), NOTHING);
    x.lay(0, 1, 0);
    Due.is("a passenger", x.rest(0, 0), KIND);
    x.lay(0, 2, 0);
    Due.is("a sheet", x.rest(0, 0), KIND);
    x.lay(0, 3, 7);
    Due.is("by 0", x.rest(0, 0), NO);
    Sentence.of(39, "The rest of the number in a SLOT by n");
    int[][] rests = {{7, 3, 1}, {-7, 3, -1}, {7, -3, 1}, {-7, -3, -1}, {0, 5, 0}, {5, 1, 0}, {5, -1, 0}, {Integer.MIN_VALUE, -1, 0}, {Integer.MIN_VALUE, 1, 0},
      {Integer.MIN_VALUE, Integer.MAX_VALUE, -1}, {Integer.MAX_VALUE, Integer.MIN_VALUE, Integer.MAX_VALUE}, {Integer.MIN_VALUE, Integer.MIN_VALUE, 0}, {3, 7, 3}};
    for (int[] r : rests) {
      x.lay(4, 3, r[0]);
      Due.is(r[0] + " by " + r[1], x.rest(4, r[1]), r[2]);
    }
  }
}
