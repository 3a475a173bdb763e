/** Promises 40 to 44: tell, check, keep, back, count. */
public final class RowsTest {
  private static final int BAD = ArguedFerry.BAD, NO = ArguedFerry.NO, FULL = ArguedFerry.FULL;

  private static void tellAll(ArguedFerry x, int... numbers) {
    for (int i = 0; i < numbers.length; i++) {
      Due.is("tell", x.tell(numbers[i]), i + 1);
    }
  }

  private static void tell() {
    ArguedFerry x = new ArguedFerry();
    tellAll(x, new int[60]);
    Due.is("tell", x.tell(0), FULL);
    Due.is("waiting", x.count(5), 60);
    Due.is("no image", x.check(1), NO);
    Due.is("none wait", x.count(5), 0);
    x.tell(1);
    Due.is("n", x.check(0), BAD);
    Due.is("none wait", x.count(5), 0);
    for (int wrong : new int[] {31, -1, Integer.MIN_VALUE, Integer.MAX_VALUE}) {
      Due.is("n, ahead of no image", x.check(wrong), BAD);
    }
  }

  private static void check() {
    ArguedFerry x = BoatTest.two(0, 3, 5, -3, 0);
    x.keep();
    // aboard; 6; 11; 15; over with 18
    int[] told = {0, 0, 0, 6, 0, 11, 0, 15, 2, 18};
    tellAll(x, told);
    Due.is("told", x.check(5), 0);
    Due.is("none wait", x.count(5), 0);
    for (int wrong = 0; wrong < 10; wrong++) {
      int[] other = told.clone();
      other[wrong]++;
      tellAll(x, other);
      Due.is("wrong at " + wrong, x.check(5), 1 + wrong);
      tellAll(x, java.util.Arrays.copyOf(told, wrong));
      Due.is("missing at " + wrong, x.check(5), 1 + wrong);
    }
    tellAll(x, told);
    Due.is("too many", x.check(4), 9);
    Due.is("nothing waits", x.check(5), 1);
    x.believes(0, 0, -3);
    x.turns(0, 4);
    x.rule(0, 9);
    x.rule(1, 1);
    x.seed(5);
    x.minutes(77);
    Due.text(x, "speech 0");
    int z = x.count(7);
    tellAll(x, told);
    Due.is("by the image", x.check(5), 0);
    Due.is("nothing changes", x.count(7), z);
    Due.is("nothing changes", x.count(1), 77);
  }

  private static void checkAtTheEnd() {
    ArguedFerry x = new ArguedFerry();
    for (int i = 0; i < 99; i++) {
      x.minutes(100);
    }
    x.minutes(97);
    x.keep();
    tellAll(x, 0, 0, 0, 0);
    Due.is("fewer", x.check(30), 0);
    tellAll(x, 0, 0, 0, 0, 0);
    Due.is("too many", x.check(3), 5);
    tellAll(x, 0, 0);
    Due.is("one", x.check(1), 0);
    x.minutes(100);
    x.keep();
    Due.is("none", x.check(9), 0);
    x.tell(0);
    Due.is("one too many", x.check(9), 1);
    ArguedFerry y = new ArguedFerry();
    y.keep();
    tellAll(y, new int[60]);
    Due.is("thirty", y.check(30), 0);
  }

  private static void keepAndBack() {
    ArguedFerry x = new ArguedFerry();
    Due.is("no image", x.back(), NO);
    x.seed(12);
    x.deal(4);
    x.rule(0, 3);
    x.rule(1, 77);
    Due.text(x, "fee c+1");
    x.minutes(13);
    x.set(0, 2, 55);
    int[] was = all(x);
    Due.is("keep", x.keep(), 4);
    for (int again = 0; again < 2; again++) {
      x.deal(2 + again);
      x.one(3, 1);
      x.set(4, 2, 66);
      x.turns(0, 5);
      x.believes(1, 1, again);
      x.set(2, 2, 7);
      x.rule(0, 8);
      x.rule(1, 8);
      Due.text(x, "fee 4");
      x.minutes(40 + again);
      Due.is("back", x.back(), 4);
      same(x, was, "back " + again);
    }
    x.one(0, 1);
    for (int matter = 0; matter < 6; matter++) {
      Due.is("views of a new one are 0", x.view(4, matter), 0);
    }
    Due.is("its temper", x.told(4, 2), 0);
    Due.is("kept anew", x.keep(), 5);
    x.one(0, 1);
    Due.is("back", x.back(), 5);
  }

  private static void notKept() {
    ArguedFerry x = new ArguedFerry();
    x.one(1, 0);
    x.keep();
    x.sheet(0, 0, 3);
    x.lay(2, 3, 44);
    x.tell(9);
    x.feed(1, 2, 3);
    Due.is("back", x.back(), 1);
    Due.is("sheets stay", x.mark(0, 2, 0), 1);
    Due.is("slots stay", x.rest(2, 10), 4);
    Due.is("numbers wait", x.count(5), 1);
    Due.is("the tape stays", x.count(6), 12);
  }

  private static int[] all(ArguedFerry x) {
    int[] all = new int[120];
    int n = 0;
    for (int what = 0; what < 8; what++) {
      all[n++] = x.count(what);
    }
    for (int what = 0; what < 6; what++) {
      all[n++] = x.ferry(what);
    }
    for (int what = 0; what < 5; what++) {
      all[n++] = x.boat(what);
    }
    for (int one = 0; one < 9; one++) {
      for (int what = 0; what < 4; what++) {
        all[n++] = x.told(one, what);
      }
      for (int matter = 0; matter < 6; matter++) {
        all[n++] = x.view(one, matter);
      }
    }
    all[n++] = x.fee();
    all[n++] = x.why(1);
    all[n] = x.textTold(1, 0);
    return all;
  }

  private static void same(ArguedFerry x, int[] was, String when) {
    int[] is = all(x);
    for (int i = 0; i < is.length; i++) {
      Due.is(when + ", number " + i, is[i], was[i]);
    }
  }

  private static void count() {
    ArguedFerry x = new ArguedFerry();
    x.deal(3);
    x.minutes(5);
    x.rule(0, 4);
    x.rule(1, 44);
    Due.text(x, "fee 1");
    Due.text(x, "fee 2");
    x.tell(1);
    x.feed(0, 0, 0);
    x.seed(-8);
    int[] due = {3, 5, 4, 44, 2, 1, 12, -8};
    for (int what = 0; what < 8; what++) {
      Due.is("count " + what, x.count(what), due[what]);
    }
    for (int wrong : new int[] {8, -1, Integer.MIN_VALUE, Integer.MAX_VALUE}) {
      Due.is("count", x.count(wrong), BAD);
    }
  }

  public static void main(String[] args) {
    tell();
    check();
    checkAtTheEnd();
    keepAndBack();
    notKept();
    count();
    Due.end();
  }
}
