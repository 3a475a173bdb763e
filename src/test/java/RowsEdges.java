/** The edges of promises 40 to 44, and of what the terms say of images and of the minutes told. */
final class RowsEdges {
  private static final int BAD = ArguedFerry.BAD, NO = ArguedFerry.NO, FULL = ArguedFerry.FULL, NONE = ArguedFerry.NONE;

  private RowsEdges() {
  }

  static void askAll() {
    sixtyWait();
    noneWaitBehindCheck();
    firstThatIsNot();
    oneToThirty();
    fewerAtTheEnd();
    byTheImage();
    noImage();
    againAndAgain();
    notKept();
    textsOfTheImage();
    count();
  }

  /** Two who heat, so that each minute tells another number: 0, 6, 11, 15, then over with 18. */
  private static ArguedFerry heating() {
    ArguedFerry x = BoatTest.two(0, 3, 5, -3, 0);
    x.rule(1, 99);
    return x;
  }

  private static void tell(ArguedFerry x, int... numbers) {
    for (int number : numbers) {
      x.tell(number);
    }
  }

  /** Another object of that kind is asked what its minutes are. */
  private static int[] told(ArguedFerry twin, int minutes) {
    int[] told = new int[2 * minutes];
    for (int i = 0; i < minutes; i++) {
      twin.minutes(1);
      told[2 * i] = twin.ferry(0);
      told[2 * i + 1] = twin.ferry(5);
    }
    return told;
  }

  private static void sixtyWait() {
    Sentence.of(40, "One more number waits: how many. FULL: 60 wait");
    ArguedFerry x = new ArguedFerry();
    int[] any = {0, -1, Integer.MIN_VALUE, Integer.MAX_VALUE, NONE, BAD};
    for (int i = 0; i < 60; i++) {
      Due.is("how many", x.tell(any[i % any.length]), i + 1);
      Due.is("how many", x.count(5), i + 1);
    }
    for (int v : any) {
      Due.is("one more", x.tell(v), FULL);
    }
    Due.is("how many", x.count(5), 60);
    x.check(1);
    Due.is("from 1 on again", x.tell(5), 1);
  }

  private static void noneWaitBehindCheck() {
    Sentence.of(41, "(none do then, whatever is answered)");
    String[] calls = {"check 0", "check 31", "check LEAST", "check 1", "check 2", "check 30"};
    for (String call : calls) {
      for (int image = 0; image < 2; image++) {
        ArguedFerry x = heating();
        if (image == 1) {
          x.keep();
        }
        tell(x, 0, 0);
        Calls.make(x, call);
        Due.is("how many behind " + call, x.count(5), 0);
        Due.is("one more behind " + call, x.tell(3), 1);
      }
    }
  }

  private static void firstThatIsNot() {
    Sentence.of(41, "else 1 and how many stand right ahead of the first that is not (or is missing, or one too many)");
    ArguedFerry x = heating();
    x.keep();
    int[] told = told(heating(), 7);
    tell(x, told);
    Due.is("all are right", x.check(7), 0);
    for (int place = 0; place < told.length; place++) {
      int[] wrong = told.clone();
      wrong[place] = told[place] == 0 ? -1 : -told[place];
      tell(x, wrong);
      Due.is("number " + place + " is not", x.check(7), 1 + place);
      tell(x, java.util.Arrays.copyOf(told, place));
      Due.is("number " + place + " is missing", x.check(7), 1 + place);
    }
    for (int fewer = 1; fewer < 7; fewer++) {
      tell(x, told);
      Due.is("one too many for " + fewer, x.check(fewer), 1 + 2 * fewer);
      tell(x, java.util.Arrays.copyOf(told, 2 * fewer + 1));
      Due.is("one too many for " + fewer, x.check(fewer), 1 + 2 * fewer);
    }
    ArguedFerry y = heating();
    y.keep();
    Due.is("all are missing", y.check(7), 1);
    tell(y, 0, 0, 5, 5);
    Due.is("the first that is not counts", y.check(1), 3);
    tell(y, 5, 5, 5);
    Due.is("the first that is not counts", y.check(1), 1);
    Sentence.ofTerms(5, "CROSSED; TEMPER of all, together, behind each");
    tell(y, 0, 0, 0, 6, 0, 11, 0, 15, 2, 18);
    Due.is("two by two", y.check(5), 0);
    y.minutes(6);
    y.keep();
    tell(y, 2, y.behind(1, 5) + y.behind(1, 6));
    Due.is("crossed is not told anew", y.check(1), 0);
  }

  private static void oneToThirty() {
    Sentence.of(41, "two by two: 0");
    Sentence.of(41, "are THE MINUTES TOLD of n (1 .. 30;");
    int[] told = told(heating(), 30);
    for (int n : new int[] {1, 2, 29, 30}) {
      ArguedFerry x = heating();
      x.keep();
      tell(x, java.util.Arrays.copyOf(told, 2 * n));
      Due.is("n " + n, x.check(n), 0);
      tell(x, java.util.Arrays.copyOf(told, 2 * n - 1));
      Due.is("one fewer, n " + n, x.check(n), 2 * n);
      int[] wrong = java.util.Arrays.copyOf(told, 2 * n);
      wrong[2 * n - 1]++;
      tell(x, wrong);
      Due.is("the last is wrong, n " + n, x.check(n), 2 * n);
      Due.is("n 31", x.check(31), BAD);
      Due.is("n 0", x.check(0), BAD);
    }
  }

  private static void fewerAtTheEnd() {
    Sentence.of(41, "fewer, if THE MINUTE would be above 9999");
    for (int left = 0; left <= 3; left++) {
      ArguedFerry x = new ArguedFerry();
      for (int i = 0; i < 99; i++) {
        x.minutes(100);
      }
      x.minutes(99 - left);
      x.keep();
      for (int n : new int[] {1, 2, 3, 4, 30}) {
        int fewer = Math.min(n, left);
        tell(x, new int[2 * fewer]);
        Due.is(left + " left, n " + n, x.check(n), 0);
        tell(x, new int[2 * fewer + 1]);
        Due.is(left + " left, n " + n + ", one too many", x.check(n), 1 + 2 * fewer);
        tell(x, new int[2 * fewer + 2]);
        Due.is(left + " left, n " + n + ", two too many", x.check(n), 1 + 2 * fewer);
      }
    }
  }

  private static void byTheImage() {
    Sentence.ofTerms(5, "of n MINUTES, one behind the other, by THE IMAGE");
    ArguedFerry x = heating();
    Due.text(x, "speech d+1");
    x.keep();
    ArguedFerry twin = heating();
    Due.text(twin, "speech d+1");
    int[] told = told(twin, 12);
    x.believes(0, 0, -3);
    x.turns(0, 1);
    x.set(1, 2, 9);
    x.rule(0, 5);
    x.rule(1, 2);
    x.seed(99);
    x.deal(3);
    Due.text(x, "speech 0");
    x.minutes(31);
    int[] now = {x.count(1), x.count(7), x.ferry(0), x.ferry(5), x.boat(1)};
    tell(x, told);
    Due.is("all are right", x.check(12), 0);
    Due.is("the minute", x.count(1), now[0]);
    Due.is("z", x.count(7), now[1]);
    Due.is("crossed", x.ferry(0), now[2]);
    Due.is("temper", x.ferry(5), now[3]);
    Due.is("way", x.boat(1), now[4]);
    tell(x, told);
    Due.is("again", x.check(12), 0);
  }

  private static void noImage() {
    Sentence.of(41, "NO: there is no IMAGE");
    ArguedFerry x = heating();
    for (int n : new int[] {1, 30}) {
      tell(x, 0, 0);
      Due.is("check", x.check(n), NO);
    }
    Sentence.of(41, "BAD; NO: there is no IMAGE");
    Due.is("n 0", x.check(0), BAD);
    Due.is("n 31", x.check(31), BAD);
    Sentence.of(43, "NO: there is none");
    Due.is("back", x.back(), NO);
    Due.is("all stay", x.count(0), 2);
    x.keep();
    Due.is("back", x.back(), 2);
    Due.is("check", x.check(1), 1);
  }

  private static void againAndAgain() {
    Sentence.of(42, "AN IMAGE is kept: how many PASSENGERS");
    ArguedFerry x = new ArguedFerry();
    Due.is("nobody", x.keep(), 0);
    x.deal(9);
    x.minutes(20);
    Sentence.of(43, "All is as THE IMAGE: how many PASSENGERS");
    Due.is("nobody", x.back(), 0);
    Due.is("passengers", x.count(0), 0);
    Due.is("the minute", x.count(1), 0);
    Due.is("z", x.count(7), 1);
    Due.is("idle", x.ferry(3), 0);
    Due.is("nobody is aboard", x.boat(2), NONE);
    x.deal(9);
    Sentence.of(42, "AN IMAGE is kept: how many PASSENGERS");
    Due.is("nine", x.keep(), 9);
    Sentence.ofTerms(5, "all can become as it is (again and again)");
    int z = x.count(7);
    for (int again = 0; again < 4; again++) {
      x.minutes(50);
      x.set(again, 2, 50);
      x.believes(again, again, 3 - again);
      x.turns(again, 5 - again);
      Due.is("back", x.back(), 9);
      Due.is("z", x.count(7), z);
      Due.is("temper", x.ferry(5), 0);
      Due.is("the minute", x.count(1), 0);
    }
    Due.is("back from back", x.back(), 9);
    x.minutes(2);
    Due.is("kept anew", x.keep(), 9);
    x.minutes(2);
    Due.is("back", x.back(), 9);
    Due.is("the minute", x.count(1), 2);
    ArguedFerry late = heating();
    late.minutes(3);
    late.keep();
    late.minutes(9);
    late.back();
    Sentence.of(43, "All is as THE IMAGE: how many PASSENGERS");
    Due.is("aboard", late.boat(1), 21);
    Due.is("who", late.boat(3), 1);
    Due.is("where", late.told(0, 1), 2);
    Due.is("over behind 2", late.minutes(2), 2);
  }

  private static void notKept() {
    Sentence.ofTerms(5, "AN IMAGE keeps all but SHEETS, SLOTS, numbers that wait, THE TAPE");
    ArguedFerry x = heating();
    x.sheet(0, 0, 2);
    x.mark(0, 0, 1);
    x.lay(0, 3, 11);
    x.tell(0);
    Due.feed(x, "fee ");
    x.keep();
    x.mark(0, 0, 2);
    x.sheet(1, 1, 3);
    x.lay(0, 3, 12);
    x.lay(1, 1, 0);
    x.tell(0);
    Due.feed(x, "77");
    x.rule(0, 7);
    x.back();
    Due.is("wind is kept", x.count(2), 1);
    Due.is("a slot is not", x.rest(0, 100), 12);
    Due.is("a slot is not", x.ask(1, 0), 0);
    x.lay(2, 2, 0);
    Due.is("a sheet is not", x.item(2, 0), 2);
    Due.is("a sheet is not", x.mark(1, 2, 5), 1);
    Due.is("numbers that wait are not", x.count(5), 2);
    Due.is("they are right", x.check(1), 0);
    Due.is("the tape is not", x.count(6), 6);
    Due.is("it is a text", x.text(), 0);
    Due.is("fee", x.fee(), 77);
  }

  /** Texts that were told behind the image are gone; others may take their numbers, and the image does not see them. */
  private static void textsOfTheImage() {
    Sentence.ofTerms(5, "AN IMAGE keeps all but");
    ArguedFerry x = new ArguedFerry();
    x.keep();
    Due.text(x, "fee 5");
    x.back();
    Due.is("no texts", x.count(4), 0);
    Due.is("crossed", x.fee(), 0);
    Due.is("why", x.why(1), NONE);
    Due.is("told", x.textTold(0, 0), BAD);
    Due.is("number 0 again", Due.text(x, "fee 6"), 0);
    x.keep();
    for (int text = 1; text < 14; text++) {
      Due.is("number", Due.text(x, "fee " + 10 * text), text);
    }
    Due.is("a fifteenth", Due.text(x, "fee 1"), FULL);
    x.back();
    Due.is("one text", x.count(4), 1);
    Due.is("fee", x.fee(), 6);
    Due.is("a fault", Due.text(x, "fee 8+"), -106);
    Due.is("fee", x.fee(), 6);
    Due.is("number 1 again", Due.text(x, "fine 9"), 1);
    x.back();
    Due.is("fee", x.fee(), 6);
    Due.is("why", x.why(2), NONE);
  }

  private static void count() {
    Sentence.of(44, "0 how many PASSENGERS, 1 THE MINUTE, 2 WIND, 3 LIMIT, 4 TEXTS, 5 numbers that wait, 6 bytes of THE TAPE, 7 z. BAD");
    ArguedFerry x = new ArguedFerry();
    x.deal(9);
    x.minutes(100);
    x.rule(0, 0);
    x.rule(1, 99);
    Due.text(x, "fee 1");
    x.tell(4);
    x.tell(4);
    x.feed(0, 0, 0);
    x.trim(11);
    x.seed(Integer.MIN_VALUE);
    int[] due = {9, 100, 0, 99, 1, 2, 11, Integer.MIN_VALUE};
    for (int what = 0; what < 8; what++) {
      Due.is("what " + what, x.count(what), due[what]);
    }
    Due.is("what 8", x.count(8), BAD);
    Due.is("what -1", x.count(-1), BAD);
  }
}
