/** Promises 1 to 11: a new object, one, told, view, believes, as, turns, set, rule, deal, seed. */
public final class PassengersTest {
  private static final int BAD = ArguedFerry.BAD, NO = ArguedFerry.NO, FULL = ArguedFerry.FULL, NONE = ArguedFerry.NONE, KIND = ArguedFerry.KIND;
  private static final int[] WRONG = {-1, Integer.MIN_VALUE, Integer.MAX_VALUE};

  /** One of each kind, at bank 0. */
  private static ArguedFerry oneOfEach() {
    ArguedFerry x = new ArguedFerry();
    for (int kind = 0; kind < 6; kind++) {
      Due.is("one", x.one(kind, 0), kind);
    }
    return x;
  }

  private static void newObject() {
    ArguedFerry x = new ArguedFerry();
    int[] counts = {0, 0, 1, 40, 0, 0, 0, 1};
    for (int what = 0; what < 8; what++) {
      Due.is("new count " + what, x.count(what), counts[what]);
    }
    for (int what = 0; what < 6; what++) {
      Due.is("new ferry " + what, x.ferry(what), 0);
    }
    int[] boat = {0, 0, NONE, NONE, NONE};
    for (int what = 0; what < 5; what++) {
      Due.is("new boat " + what, x.boat(what), boat[what]);
    }
    for (int sheet = 0; sheet < 4; sheet++) {
      Due.is("new sheet", x.reads(sheet), ArguedFerry.NOTHING);
    }
    for (int slot = 0; slot < 5; slot++) {
      Due.is("new slot", x.lay(slot, 0, 0), 0);
    }
    for (int key = 0; key < 3; key++) {
      Due.is("new why", x.why(key), NONE);
    }
    Due.is("new back", x.back(), NO);
    Due.is("new told", x.told(0, 0), BAD);
  }

  private static void one() {
    ArguedFerry x = new ArguedFerry();
    for (int i = 0; i < 9; i++) {
      Due.is("one", x.one(i % 6, i % 2), i);
      Due.is("its kind", x.told(i, 0), i % 6);
      Due.is("its bank", x.told(i, 1), i % 2);
      Due.is("its temper", x.told(i, 2), 0);
      for (int matter = 0; matter < 6; matter++) {
        Due.is("its view", x.view(i, matter), 0);
      }
    }
    Due.is("a tenth", x.one(0, 0), FULL);
    Due.is("a tenth of no kind", x.one(6, 0), BAD);
    Due.is("how many", x.count(0), 9);
    ArguedFerry y = new ArguedFerry();
    for (int wrong : new int[] {-1, 6, Integer.MIN_VALUE, Integer.MAX_VALUE}) {
      Due.is("kind", y.one(wrong, 0), BAD);
    }
    for (int wrong : new int[] {-1, 2, Integer.MIN_VALUE, Integer.MAX_VALUE}) {
      Due.is("bank", y.one(0, wrong), BAD);
    }
    Due.is("none came", y.count(0), 0);
  }

  private static void told() {
    ArguedFerry x = oneOfEach();
    int[] worths = {50, 54, 70, 108, 64, 3};
    for (int kind = 0; kind < 6; kind++) {
      x.set(kind, 2, 50);
      Due.is("worth", x.told(kind, 3), worths[kind]);
      Due.is("kind", x.told(kind, 0), kind);
    }
    x.set(2, 2, 99);
    Due.is("worth of hot hired", x.told(2, 3), 21);
    x.set(4, 2, 99);
    Due.is("worth of hot silent", x.told(4, 3), 15);
    Due.is("what 4", x.told(0, 4), BAD);
    Due.is("one 6", x.told(6, 0), BAD);
    for (int wrong : WRONG) {
      Due.is("one", x.told(wrong, 0), BAD);
      Due.is("what", x.told(0, wrong), BAD);
    }
  }

  private static void views() {
    ArguedFerry x = oneOfEach();
    for (int v = -3; v <= 3; v++) {
      Due.is("believes", x.believes(1, 5, v), v == -3 ? 0 : v - 1);
      Due.is("view", x.view(1, 5), v);
    }
    Due.is("view of another matter", x.view(1, 4), 0);
    Due.is("view of another one", x.view(2, 5), 0);
    Due.is("v", x.believes(1, 5, 4), BAD);
    Due.is("v", x.believes(1, 5, -4), BAD);
    Due.is("matter", x.believes(1, 6, 0), BAD);
    Due.is("one", x.believes(6, 5, 0), BAD);
    Due.is("matter", x.view(1, 6), BAD);
    Due.is("one", x.view(6, 5), BAD);
    for (int wrong : WRONG) {
      Due.is("matter", x.believes(1, wrong, 0), BAD);
      Due.is("one", x.believes(wrong, 5, 0), BAD);
      Due.is("matter", x.view(1, wrong), BAD);
      Due.is("one", x.view(wrong, 5), BAD);
    }
    Due.is("it stayed", x.view(1, 5), 3);
  }

  private static void asAndTurns() {
    ArguedFerry x = oneOfEach();
    int[] kindsOf = {1, 3, 5, 11, 21, 33};
    for (int one = 0; one < 6; one++) {
      x.set(one, 2, 10 + one);
      for (int kind = 0; kind < 6; kind++) {
        Due.is("as " + one + " " + kind, x.as(one, kind), (kindsOf[one] >> kind & 1) == 1 ? 10 + one : KIND);
      }
    }
    Due.is("as", x.as(6, 0), BAD);
    Due.is("as", x.as(0, 6), BAD);
    Due.is("turns", x.turns(6, 0), BAD);
    Due.is("turns", x.turns(0, 6), BAD);
    for (int wrong : WRONG) {
      Due.is("as", x.as(wrong, 0), BAD);
      Due.is("as", x.as(0, wrong), BAD);
      Due.is("turns", x.turns(wrong, 0), BAD);
      Due.is("turns", x.turns(0, wrong), BAD);
    }
    x.believes(0, 2, -2);
    Due.is("turns", x.turns(0, 3), 0);
    Due.is("it is twice", x.as(0, 3), 10);
    Due.is("its worth", x.told(0, 3), 28);
    Due.is("its view", x.view(0, 2), -2);
    Due.is("turns into the same", x.turns(0, 3), 3);
    Due.is("turns again", x.turns(0, 5), 3);
    Due.is("no more", x.as(0, 3), KIND);
  }

  private static void set() {
    ArguedFerry x = oneOfEach();
    Due.is("bank", x.set(0, 1, 1), 0);
    Due.is("bank", x.told(0, 1), 1);
    Due.is("bank", x.set(0, 1, 0), 1);
    Due.is("temper", x.set(0, 2, 99), 0);
    Due.is("temper", x.set(0, 2, 7), 99);
    Due.is("bank 2", x.set(0, 1, 2), BAD);
    Due.is("bank -1", x.set(0, 1, -1), BAD);
    Due.is("temper 100", x.set(0, 2, 100), BAD);
    Due.is("temper -1", x.set(0, 2, -1), BAD);
    Due.is("what 0", x.set(0, 0, 0), BAD);
    Due.is("what 3", x.set(0, 3, 0), BAD);
    Due.is("one", x.set(6, 1, 0), BAD);
    Due.is("one", x.set(-1, 2, 0), BAD);
    x.minutes(1);
    Due.is("aboard", x.told(0, 1), 2);
    Due.is("bank of one aboard", x.set(0, 1, 1), NO);
    Due.is("bank 2 of one aboard", x.set(1, 1, 2), BAD);
    Due.is("temper of one aboard", x.set(0, 2, 8), 7);
    Due.is("bank of another one", x.set(2, 1, 1), 0);
  }

  private static void rule() {
    ArguedFerry x = new ArguedFerry();
    Due.is("wind", x.rule(0, 9), 1);
    Due.is("wind", x.rule(0, 0), 9);
    Due.is("limit", x.rule(1, 99), 40);
    Due.is("limit", x.rule(1, 1), 99);
    int[][] wrong = {{0, 10}, {0, -1}, {1, 0}, {1, 100}, {2, 1}, {-1, 1}, {Integer.MAX_VALUE, 1}, {1, Integer.MIN_VALUE}};
    for (int[] w : wrong) {
      Due.is("rule", x.rule(w[0], w[1]), BAD);
    }
    Due.is("wind", x.count(2), 0);
    Due.is("limit", x.count(3), 1);
  }

  private static void dealAndSeed() {
    ArguedFerry x = new ArguedFerry();
    Due.is("seed", x.seed(Integer.MIN_VALUE), 1);
    Due.is("seed", x.seed(77), Integer.MIN_VALUE);
    Due.is("deal 0", x.deal(0), BAD);
    Due.is("deal 10", x.deal(10), BAD);
    Due.is("deal -1", x.deal(-1), BAD);
    Due.is("nothing is drawn", x.count(7), 77);
    x.one(0, 0);
    Due.is("deal", x.deal(7), 7);
    int z = 77;
    for (int one = 1; one < 8; one++) {
      z = z * 1103515245 + 12345;
      Due.is("kind", x.told(one, 0), (z >>> 8) % 6);
      z = z * 1103515245 + 12345;
      Due.is("bank", x.told(one, 1), (z >>> 8) % 2);
      for (int matter = 0; matter < 6; matter++) {
        z = z * 1103515245 + 12345;
        Due.is("view", x.view(one, matter), (z >>> 8) % 7 - 3);
      }
      Due.is("temper", x.told(one, 2), 0);
    }
    Due.is("z", x.count(7), z);
    Due.is("room for one", x.deal(9), 1);
    for (int i = 0; i < 8; i++) {
      z = z * 1103515245 + 12345;
    }
    Due.is("draws for one", x.count(7), z);
    Due.is("no room", x.deal(1), 0);
    Due.is("no draws", x.seed(5), z);
  }

  public static void main(String[] args) {
    newObject();
    one();
    told();
    views();
    asAndTurns();
    set();
    rule();
    dealAndSeed();
    Due.end();
  }
}
