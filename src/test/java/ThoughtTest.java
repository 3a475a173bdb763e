/** Promises 16 to 25: over, settles, pairs, behind, lands, calm, becomes, like, fee, fine. */
public final class ThoughtTest {
  private static final int BAD = ArguedFerry.BAD, NONE = ArguedFerry.NONE, NOTHING = ArguedFerry.NOTHING;
  private static final int[] WRONG = {-1, Integer.MIN_VALUE, Integer.MAX_VALUE};

  /** Goats at bank 0; of each matter the views of them stand in a text of digits, 3 being view 0. */
  private static ArguedFerry goats(String... views) {
    ArguedFerry x = new ArguedFerry();
    for (int one = 0; one < views.length; one++) {
      x.one(5, 0);
      for (int matter = 0; matter < views[one].length(); matter++) {
        x.believes(one, matter, views[one].charAt(matter) - '3');
      }
    }
    return x;
  }

  private static void overAndSettles() {
    // apart by 1, 0, 2, 6, 3, 6: way is more by 1, -, 3, 11, 5, 11 a minute
    ArguedFerry x = goats("335666", "433030");
    int[] due = {29, NONE, 10, 3, 6, 3};
    int z = x.count(7);
    for (int matter = 0; matter < 6; matter++) {
      Due.is("over on " + matter, x.over(0, 1, matter), due[matter]);
      Due.is("over on " + matter, x.over(1, 0, matter), due[matter]);
    }
    Due.is("soonest, least", x.settles(0, 1, 0), 3);
    Due.is("minutes", x.settles(0, 1, 1), 3);
    x.believes(0, 3, 2);
    Due.is("soonest", x.settles(0, 1, 0), 5);
    Due.is("minutes", x.settles(0, 1, 1), 3);
    x.believes(0, 3, 3);
    x.believes(0, 0, -3);
    x.believes(1, 0, 3);
    Due.is("matter 0", x.settles(1, 0, 0), 0);
    x.believes(0, 0, 0);
    x.believes(1, 0, 1);
    Due.is("nothing changes", x.boat(1) + x.count(1) + x.ferry(0), 0);
    Due.is("nothing is drawn", x.count(7), z);
    x.set(0, 1, 1);
    Due.is("wherever they are", x.over(0, 1, 3), 3);
    x.set(0, 2, 40);
    Due.is("capsized ahead of that", x.over(0, 1, 3), NONE);
    Due.is("on none", x.settles(0, 1, 0), NONE);
    Due.is("on none", x.settles(1, 0, 1), NONE);
    // 29 ways at 1 a minute; slower ones are not over behind 40
    ArguedFerry slow = goats("3", "4");
    slow.rule(0, 2);
    Due.is("not by then", slow.over(0, 1, 0), NONE);
    slow.rule(0, 1);
    Due.is("29", slow.over(0, 1, 0), 29);
    wrongTwo();
  }

  private static void wrongTwo() {
    ArguedFerry x = goats("3", "4");
    Due.is("one and the same", x.over(1, 1, 0), BAD);
    Due.is("one", x.over(2, 1, 0), BAD);
    Due.is("other", x.over(1, 2, 0), BAD);
    Due.is("matter", x.over(0, 1, 6), BAD);
    Due.is("one and the same", x.settles(0, 0, 0), BAD);
    Due.is("one", x.settles(2, 1, 0), BAD);
    Due.is("other", x.settles(1, 2, 0), BAD);
    Due.is("what", x.settles(0, 1, 2), BAD);
    for (int wrong : WRONG) {
      Due.is("one", x.over(wrong, 1, 0), BAD);
      Due.is("other", x.over(0, wrong, 0), BAD);
      Due.is("matter", x.over(0, 1, wrong), BAD);
      Due.is("one", x.settles(wrong, 1, 0), BAD);
      Due.is("other", x.settles(0, wrong, 0), BAD);
      Due.is("what", x.settles(0, 1, wrong), BAD);
    }
  }

  /** 40 minutes are enough, 41 are not; speech is by the minute, so that the way done is known. */
  private static void overBehindForty() {
    ArguedFerry x = goats("3", "4");
    x.rule(0, 0);
    Due.is("text", Due.text(x, "speech (n=39)*15"), 0);
    Due.is("40", x.over(0, 1, 0), 40);
    Due.is("text", Due.text(x, "speech (n=40)*15"), 1);
    Due.is("41", x.over(0, 1, 0), NONE);
    x.minutes(1);
    Due.is("the minute goes on from now", x.over(0, 1, 0), 40);
    Due.is("aboard or not", x.over(1, 0, 0), 40);
  }

  private static void pairs() {
    // a chain: 0 with 1, 1 with 2, 2 with 3; the greedy choice of 1 with 2 would leave one pair
    ArguedFerry x = goats("336333", "306333", "300333", "330333");
    x.rule(0, 9);
    Due.is("0 with 1", x.over(0, 1, 1), NONE);
    x.rule(0, 5);
    Due.is("apart by 3 makes 1 a minute", x.over(0, 1, 1), 29);
    Due.is("chain", x.pairs(0), 2);
    Due.is("nobody is there", x.pairs(1), 0);
    x.set(0, 1, 1);
    Due.is("one pair", x.pairs(0), 1);
    Due.is("one alone", x.pairs(1), 0);
    ArguedFerry star = goats("0", "6", "6", "6", "6");
    Due.is("all with 0 alone", star.pairs(0), 1);
    ArguedFerry nine = goats("0", "6", "0", "6", "0", "6", "0", "6", "0");
    Due.is("nine", nine.pairs(0), 4);
    nine.minutes(1);
    Due.is("those aboard are not there", nine.pairs(0), 3);
    for (int one = 0; one < 9; one++) {
      nine.set(one, 1, 1);
    }
    Due.is("at bank 1", nine.pairs(1), 3);
    Due.is("none of one mind", goats("1", "1", "1").pairs(0), 0);
    Due.is("nobody", new ArguedFerry().pairs(0), 0);
    for (int wrong : new int[] {2, -1, Integer.MIN_VALUE, Integer.MAX_VALUE}) {
      Due.is("bank", x.pairs(wrong), BAD);
    }
  }

  private static void behind() {
    ArguedFerry x = BoatTest.two(0, 3, 5, -3, 0);
    x.rule(1, 99);
    int[] tempers = {0, 0, 6, 11, 15};
    int[] crossed = {0, 0, 0, 0, 2};
    for (int n = 0; n < 4; n++) {
      Due.is("temper behind " + n, x.behind(n, 5), tempers[n]);
      Due.is("goat behind " + n, x.behind(n, 6), 0);
      Due.is("crossed behind " + n, x.behind(n, 0), crossed[n]);
    }
    int minutes = 0;
    while (minutes < 100 && x.behind(minutes, 0) == 0) {
      minutes++;
    }
    Due.is("way 1, 12, 21, 28, 33", minutes, 5);
    Due.is("over", x.behind(5, 4), 3);
    Due.is("not yet", x.behind(4, 4), 0);
    Due.is("nothing changes", x.count(1) + x.ferry(5) + x.ferry(0), 0);
    Due.is("n 101", x.behind(101, 0), BAD);
    Due.is("what 7", x.behind(0, 7), BAD);
    for (int wrong : WRONG) {
      Due.is("n", x.behind(wrong, 0), BAD);
      Due.is("what", x.behind(0, wrong), BAD);
    }
    ArguedFerry others = goats("333333", "333333", "000000", "666666");
    others.set(0, 1, 1);
    others.set(1, 1, 1);
    others.minutes(2);
    Due.is("2 and 3 are aboard", others.boat(2) + 10 * others.boat(3), 32);
    Due.is("2 and 3 will be over", others.behind(2, 4), 15);
    ArguedFerry y = new ArguedFerry();
    Due.is("idle", y.behind(100, 3), 100);
    Due.is("nobody", y.behind(0, 5), BAD);
    for (int what = 0; what < 5; what++) {
      ArguedFerry by = new ArguedFerry();
      by.seed(9);
      by.deal(9);
      int thought = by.behind(57, what);
      by.minutes(57);
      Due.is("as it comes " + what, by.ferry(what), thought);
    }
  }

  private static void lands() {
    ArguedFerry x = goats("000000", "666666", "333333");
    Due.is("over", x.lands(0), 4);
    Due.is("over", x.lands(1), 4);
    x.set(2, 1, 1);
    Due.is("there", x.lands(2), 0);
    Due.is("one", x.lands(3), BAD);
    for (int wrong : WRONG) {
      Due.is("one", x.lands(wrong), BAD);
    }
    ArguedFerry alone = goats("0");
    Due.is("never", alone.lands(0), NONE);
    // from 200 minutes on: goats whose speech waits for the minute
    ArguedFerry late = goats("000000", "333333");
    late.rule(0, 0);
    Due.text(late, "speech (n=199)*15");
    Due.is("200", late.lands(0), 200);
    Due.text(late, "speech (n=200)*15");
    Due.is("201", late.lands(0), NONE);
    Due.is("nothing changes", late.count(1), 0);
  }

  private static void calm() {
    // apart by 6: 6, then 5, 4 ..: 18 would be over with way 1, 12, 21, 28, 33
    ArguedFerry x = BoatTest.two(0, 3, 5, -3, 0);
    Due.is("over behind 5 with 20", x.calm(5, 0), 20);
    Due.is("crossed", x.calm(5, 1), 2);
    Due.is("not behind 4: the least", x.calm(4, 0), 5);
    Due.is("crossed", x.calm(4, 1), 0);
    x.set(0, 2, 80);
    Due.is("none does", x.calm(5, 0), 5);
    x.set(0, 2, 76);
    Due.is("95", x.calm(5, 0), 95);
    Due.is("limit stays", x.count(3), 40);
    for (int wrong : new int[] {0, 61, -1, Integer.MIN_VALUE, Integer.MAX_VALUE}) {
      Due.is("n", x.calm(wrong, 0), BAD);
    }
    for (int wrong : new int[] {2, -1, Integer.MIN_VALUE, Integer.MAX_VALUE}) {
      Due.is("what", x.calm(1, wrong), BAD);
    }
    Due.is("n 60", goats("0", "6").calm(60, 0), 5);
    ArguedFerry over = BoatTest.two(5, 3, 5, -3, 0);
    over.minutes(4);
    Due.is("what has crossed counts", over.calm(1, 1), 2);
  }

  private static void becomes() {
    ArguedFerry x = BoatTest.two(0, 3, 5, -3, 0);
    x.rule(1, 14);
    // behind 4: way 1, 12, 21, 28 as passenger; twice speaks 16 but heats 11; hired 9, 9, heating by 3
    Due.is("hired is over behind 4", x.becomes(0, 4, 0), 2);
    Due.is("crossed", x.becomes(0, 4, 1), 2);
    Due.is("no kind is behind 2: the least", x.becomes(0, 2, 0), 0);
    Due.is("crossed", x.becomes(0, 2, 1), 0);
    Due.is("behind 1", x.becomes(0, 1, 1), 0);
    Due.that("behind 60", x.becomes(0, 60, 1) >= 2);
    x.rule(1, 99);
    Due.is("married or twice is over behind 4", x.becomes(0, 4, 0), 1);
    Due.is("of hired and twice, which both are, the least", x.becomes(1, 4, 0), 2);
    Due.is("crossed", x.becomes(1, 4, 1), 2);
    Due.is("no kind is behind 3", x.becomes(1, 3, 1), 0);
    Due.is("kind stays", x.told(0, 0), 0);
    Due.is("one", x.becomes(2, 4, 0), BAD);
    for (int wrong : new int[] {0, 61, -1, Integer.MIN_VALUE, Integer.MAX_VALUE}) {
      Due.is("n", x.becomes(0, wrong, 0), BAD);
    }
    for (int wrong : new int[] {2, -1, Integer.MIN_VALUE, Integer.MAX_VALUE}) {
      Due.is("what", x.becomes(0, 4, wrong), BAD);
    }
    for (int wrong : WRONG) {
      Due.is("one", x.becomes(wrong, 4, 0), BAD);
    }
  }

  private static void like() {
    ArguedFerry x = BoatTest.two(0, 3, 1, -3, 0);
    x.rule(1, 99);
    Due.is("missing", x.like(0, 0), NOTHING);
    x.sheet(0, 0, 3);
    Due.is("0 0 6 against 0 0 0, 0 0 12", x.like(0, 0), 0);
    Due.is("differences", x.like(0, 1), 6);
    x.mark(0, 2, 10);
    Due.is("12 is nearer to 10", x.like(0, 0), 1);
    Due.is("differences", x.like(0, 1), 2);
    x.mark(0, 2, 9);
    Due.is("of several the least", x.like(0, 0), 0);
    x.sheet(1, 1, 24);
    x.mark(1, 0, -99999);
    for (int place = 1; place < 24; place++) {
      x.mark(1, place, NONE);
    }
    Due.is("signs left out, numbers alone", x.like(1, 1), 99999);
    x.sheet(1, 1, 0);
    Due.is("no places", x.like(1, 0) + x.like(1, 1), 0);
    Due.is("nothing changes", x.count(1) + x.ferry(5), 0);
    for (int wrong : new int[] {4, -1, Integer.MIN_VALUE, Integer.MAX_VALUE}) {
      Due.is("sheet", x.like(wrong, 0), BAD);
      Due.is("what", x.like(0, wrong == 4 ? 2 : wrong), BAD);
    }
    ArguedFerry nine = new ArguedFerry();
    nine.seed(3);
    nine.deal(9);
    nine.set(8, 2, 33);
    nine.sheet(0, 0, 1);
    nine.mark(0, 0, 32767);
    Due.is("the last of nine", nine.like(0, 0), 8);
    ArguedFerry y = new ArguedFerry();
    Due.is("what, ahead of a missing sheet", y.like(0, 2), BAD);
    Due.is("a missing sheet, ahead of nobody", y.like(0, 0), NOTHING);
    y.sheet(0, 0, 1);
    Due.is("nobody", y.like(0, 0), NONE);
  }

  private static void feeAndFine() {
    ArguedFerry x = goats("000000", "666666");
    x.minutes(4);
    Due.is("fee without a text", x.fee(), 2);
    x.believes(0, 0, 3);
    for (int matter = 0; matter < 6; matter++) {
      x.believes(0, matter, 3);
    }
    x.minutes(2);
    Due.text(x, "fee c*100-s");
    Due.is("fee", x.fee(), 199);
    Due.text(x, "fee 0-9999*9999*9999");
    Due.is("ints wrap", x.fee(), -(9999 * 9999 * 9999));
    x.set(0, 2, 17);
    Due.is("fine without a text", x.fine(0), 17);
    Due.text(x, "fine t*10+b");
    Due.is("fine", x.fine(0), 171);
    Due.is("fine", x.fine(1), 1);
    x.minutes(1);
    Due.is("fine of one aboard", x.fine(1), 2);
    Due.is("one", x.fine(2), BAD);
    for (int wrong : WRONG) {
      Due.is("one", x.fine(wrong), BAD);
    }
  }

  public static void main(String[] args) {
    overAndSettles();
    overBehindForty();
    pairs();
    behind();
    lands();
    calm();
    becomes();
    like();
    feeAndFine();
    Due.end();
  }
}
