/** Promises 12 to 15: boat, argues, minutes, ferry. */
public final class BoatTest {
  private static final int BAD = ArguedFerry.BAD, NONE = ArguedFerry.NONE;
  private static final int[] WRONG = {-1, Integer.MIN_VALUE, Integer.MAX_VALUE};

  /** Two passengers at a bank, of such kinds and of such views, whatever the matter is. */
  static ArguedFerry two(int kind, int view, int other, int otherView, int bank) {
    ArguedFerry x = new ArguedFerry();
    x.one(kind, bank);
    x.one(other, bank);
    for (int matter = 0; matter < 6; matter++) {
      x.believes(0, matter, view);
      x.believes(1, matter, otherView);
    }
    return x;
  }

  private static void state(ArguedFerry x, String when, int... due) {
    int[] is = {x.boat(0), x.boat(1), x.told(0, 1), x.told(1, 1), x.told(0, 2), x.told(1, 2), x.ferry(0), x.ferry(1), x.ferry(2), x.ferry(3), x.count(1)};
    for (int i = 0; i < due.length; i++) {
      Due.is(when + ", number " + i, is[i], due[i]);
    }
  }

  private static void boat() {
    ArguedFerry x = two(0, 3, 0, 0, 0);
    Due.is("boat 5", x.boat(5), BAD);
    for (int wrong : WRONG) {
      Due.is("boat", x.boat(wrong), BAD);
    }
    x.minutes(1);
    Due.is("matter of z 1", x.boat(4), ((1103515245 + 12345) >>> 8) % 6);
    Due.is("z", x.count(7), 1103515245 + 12345);
    Due.is("from", x.boat(0), 0);
    Due.is("way", x.boat(1), 1);
    Due.is("lesser", x.boat(2), 0);
    Due.is("greater", x.boat(3), 1);
    Due.is("both aboard", x.told(0, 1) + x.told(1, 1), 4);
    ArguedFerry y = new ArguedFerry();
    y.one(0, 1);
    y.one(0, 0);
    y.one(0, 1);
    y.one(0, 1);
    y.minutes(1);
    Due.is("idle, to the other bank", y.boat(0), 1);
    Due.is("nobody is aboard", y.boat(2), NONE);
    Due.is("nobody is aboard", y.boat(4), NONE);
    y.minutes(1);
    Due.is("first of bank 1", y.boat(2), 0);
    Due.is("second of bank 1", y.boat(3), 2);
    ArguedFerry nine = new ArguedFerry();
    for (int one = 0; one < 9; one++) {
      nine.one(0, one == 3 || one == 8 ? 0 : 1);
    }
    nine.minutes(1);
    Due.is("3 of nine", nine.boat(2), 3);
    Due.is("8 of nine", nine.boat(3), 8);
    nine.minutes(1);
    nine.set(8, 1, 1);
    nine.minutes(1);
    Due.is("3 alone", nine.boat(2), NONE);
    Due.is("idle", nine.ferry(3), 1);
  }

  private static void argues() {
    // kind, own view, other's view, then apart, speaks, heats, shifts
    int[][] rows = {
      {0, 3, -3, 6, 6, 6, 2}, {0, -1, 1, 2, 2, 2, 0}, {0, 2, 2, 0, 0, 0, 2},
      {1, 3, -3, 6, 8, 12, 2}, {1, 0, 1, 1, 3, 2, 1}, {1, 1, 1, 0, 0, 0, 1},
      {2, 3, -3, 6, 9, 3, 3}, {2, 0, 1, 1, 4, 0, -1}, {2, -3, 0, 3, 6, 1, -3}, {2, 1, 0, 1, 4, 0, 2}, {2, 3, 3, 0, 3, 0, -3}, {2, 2, 2, 0, 3, 0, 3},
      {2, -3, -3, 0, 3, 0, -2},
      {3, 3, -3, 6, 16, 11, -3}, {3, 0, 1, 1, 6, 1, 1}, {3, 1, 1, 0, 0, 0, 1},
      {4, 3, -3, 6, 0, 3, 3}, {4, 0, 1, 1, 0, 0, 0}, {4, 3, 3, 0, 0, 0, 3},
      {5, 3, -3, 6, 6, 0, 3}, {5, 0, 1, 1, 1, 0, 0}, {5, 3, 3, 0, 0, 0, 3}};
    for (int[] row : rows) {
      ArguedFerry x = new ArguedFerry();
      x.one(0, 1);
      x.one(row[0], 0);
      x.believes(1, 4, row[1]);
      x.believes(0, 4, row[2]);
      for (int what = 0; what < 4; what++) {
        Due.is("argues, kind " + row[0] + ", what " + what, x.argues(1, 0, 4, what), row[3 + what]);
      }
      Due.is("nothing shifts", x.view(1, 4), row[1]);
    }
    ArguedFerry x = two(0, 1, 1, 2, 0);
    Due.is("one and the same", x.argues(1, 1, 0, 0), BAD);
    Due.is("one", x.argues(2, 1, 0, 0), BAD);
    Due.is("other", x.argues(1, 2, 0, 0), BAD);
    Due.is("matter", x.argues(1, 0, 6, 0), BAD);
    Due.is("what", x.argues(1, 0, 0, 4), BAD);
    for (int wrong : WRONG) {
      Due.is("one", x.argues(wrong, 1, 0, 0), BAD);
      Due.is("other", x.argues(1, wrong, 0, 0), BAD);
      Due.is("matter", x.argues(1, 0, wrong, 0), BAD);
      Due.is("what", x.argues(1, 0, 0, wrong), BAD);
    }
  }

  private static void crossing() {
    // two goats: way 1, 12, 23, 34, no heat
    ArguedFerry x = two(5, 3, 5, -3, 0);
    Due.is("goats", x.minutes(3), 0);
    state(x, "goats under way", 0, 23, 2, 2, 0, 0, 0, 0, 0, 0, 3);
    Due.is("goats", x.minutes(1), 2);
    state(x, "goats over", 1, 0, 1, 1, 0, 0, 2, 0, 0, 0, 4);
    Due.is("those over", x.ferry(4), 3);
    Due.is("and back", x.minutes(4), 2);
    state(x, "goats back", 0, 0, 0, 0, 0, 0, 4, 0, 0, 0, 8);
    Due.is("those over", x.ferry(4), 0);
    // exactly 30 is over, 29 is not: two goats 2 apart (4 a minute) with wind 3 have 1 a minute
    ArguedFerry y = two(5, 1, 5, -1, 0);
    y.rule(0, 3);
    y.minutes(29);
    state(y, "29", 0, 29, 2, 2, 0, 0, 0, 0, 0, 0, 29);
    Due.is("30", y.minutes(1), 2);
    state(y, "30", 1, 0, 1, 1, 0, 0, 2, 0, 0, 0, 30);
  }

  private static void capsizing() {
    // apart 4: heat 4 and 8 make 12, views 2 and -2 become 1 and -1; then 2 and 4 make 18
    ArguedFerry x = two(0, 2, 1, -2, 0);
    x.rule(1, 18);
    x.minutes(2);
    state(x, "heating", 0, 1 + 4 + 6 - 1, 2, 2, 4, 8, 0, 0, 0, 0, 2);
    x.minutes(1);
    state(x, "capsized", 0, 0, 0, 0, 0, 0, 0, 0, 1, 0, 3);
    ArguedFerry below = two(0, 2, 1, -2, 0);
    below.rule(1, 19);
    below.minutes(3);
    state(below, "just below the limit", 0, 10 + 2 + 4 - 1, 2, 2, 6, 12, 0, 0, 0, 0, 3);
    // insults come first, though they would be over
    ArguedFerry both = two(5, 3, 5, -3, 0);
    both.minutes(3);
    both.set(0, 2, 40);
    Due.is("capsized ahead of the shore", both.minutes(1), 0);
    state(both, "capsized ahead of the shore", 0, 0, 0, 0, 0, 0, 0, 0, 1, 0, 4);
    // they are back at the bank from which they came
    ArguedFerry far = two(1, 3, 1, -3, 1);
    far.rule(1, 1);
    far.minutes(3);
    state(far, "capsized from bank 1", 1, 0, 1, 1, 0, 0, 0, 0, 1, 1, 3);
    // 99 at most: 95 and 6 are 99, with 0 that is not 100
    ArguedFerry hot = two(0, 3, 5, -3, 0);
    hot.rule(1, 99);
    hot.minutes(1);
    hot.set(0, 2, 92);
    hot.minutes(1);
    state(hot, "98", 0, 12, 2, 2, 98, 0, 0, 0, 0, 0, 2);
    hot.minutes(1);
    state(hot, "99 is the limit", 0, 0, 0, 0, 0, 0, 0, 0, 1, 0, 3);
  }

  private static void stranding() {
    ArguedFerry x = two(0, 1, 0, 1, 0);
    x.rule(0, 0);
    x.minutes(2);
    state(x, "of one mind", 0, 0, 0, 0, 0, 0, 0, 1, 0, 0, 2);
    // goats 1 apart: 2 a minute less wind 3
    ArguedFerry y = two(5, 0, 5, 1, 1);
    y.rule(0, 3);
    y.minutes(3);
    state(y, "against the wind", 1, 0, 1, 1, 0, 0, 0, 1, 0, 1, 3);
    // of one mind from way 12 on: less by 1 and wind 4
    ArguedFerry drift = two(5, 3, 5, -3, 0);
    drift.minutes(2);
    drift.rule(0, 4);
    for (int matter = 0; matter < 6; matter++) {
      drift.believes(0, matter, -3);
    }
    drift.minutes(1);
    state(drift, "drifting", 0, 7, 2, 2, 0, 0, 0, 0, 0, 0, 3);
    drift.minutes(1);
    state(drift, "drifting", 0, 2, 2, 2, 0, 0, 0, 0, 0, 0, 4);
    drift.minutes(1);
    state(drift, "stranded", 0, 0, 0, 0, 0, 0, 0, 1, 0, 0, 5);
    // a hired one speaks by 3 even then
    ArguedFerry z = two(2, 0, 5, 0, 0);
    z.rule(0, 0);
    z.minutes(2);
    state(z, "what a hired one speaks does not count then", 0, 0, 0, 0, 0, 0, 0, 1, 0, 0, 2);
  }

  private static void shifting() {
    ArguedFerry x = two(3, 2, 3, -1, 0);
    x.rule(1, 99);
    x.rule(0, 9);
    x.minutes(1);
    int matter = x.boat(4);
    x.minutes(1);
    Due.is("twice convinced, each by what it was", x.view(0, matter), -1);
    Due.is("twice convinced, each by what it was", x.view(1, matter), 2);
    Due.is("the matter stays", x.boat(4), matter);
    ArguedFerry y = two(0, 1, 5, 0, 0);
    y.rule(0, 0);
    y.minutes(1);
    int z = y.count(7);
    matter = y.boat(4);
    y.minutes(1);
    Due.is("convinced", y.view(0, matter), 0);
    Due.is("goats are not", y.view(1, matter), 0);
    Due.is("another matter is drawn", y.count(7), z * 1103515245 + 12345);
    Due.is("another matter", y.boat(4), (y.count(7) >>> 8) % 6);
    Due.is("way", y.boat(1), 3);
    ArguedFerry w = two(0, 3, 5, 1, 0);
    w.minutes(2);
    Due.is("no draw while they are apart", w.count(7), 1103515245 + 12345);
  }

  private static void minutes() {
    ArguedFerry x = new ArguedFerry();
    for (int wrong : new int[] {0, 101, -1, Integer.MIN_VALUE, Integer.MAX_VALUE}) {
      Due.is("minutes", x.minutes(wrong), BAD);
    }
    Due.is("none passed", x.count(1), 0);
    for (int i = 0; i < 99; i++) {
      x.minutes(100);
    }
    Due.is("9900", x.count(1), 9900);
    x.one(5, 0);
    x.one(5, 0);
    for (int matter = 0; matter < 6; matter++) {
      x.believes(0, matter, 3);
      x.believes(1, matter, -3);
    }
    Due.is("99 more", x.minutes(100), 2 * (99 / 4));
    Due.is("9999", x.count(1), 9999);
    Due.is("idle no more", x.ferry(3), 9900);
    Due.is("no more", x.minutes(1), 0);
    Due.is("9999", x.count(1), 9999);
    Due.is("the boat stays", x.boat(1), 23);
    Due.is("thought goes on", x.behind(1, 0), 2 * (99 / 4) + 2);
  }

  private static void ferry() {
    ArguedFerry x = new ArguedFerry();
    for (int i = 0; i < 9; i++) {
      x.one(5, i % 2);
      x.set(i, 2, 90 + i);
    }
    Due.is("those at bank 1", x.ferry(4), 2 + 8 + 32 + 128);
    Due.is("temper of all", x.ferry(5), 9 * 90 + 36);
    x.set(8, 1, 1);
    Due.is("those at bank 1", x.ferry(4), 2 + 8 + 32 + 128 + 256);
    Due.is("what 6", x.ferry(6), BAD);
    for (int wrong : WRONG) {
      Due.is("what", x.ferry(wrong), BAD);
    }
    x.minutes(1);
    Due.is("those aboard are at none", x.ferry(4), 2 + 8 + 32 + 128 + 256);
    ArguedFerry y = two(5, 0, 5, 0, 1);
    y.minutes(2);
    Due.is("those aboard are at none", y.ferry(4), 0);
  }

  public static void main(String[] args) {
    boat();
    argues();
    crossing();
    capsizing();
    stranding();
    shifting();
    minutes();
    ferry();
    Due.end();
  }
}
