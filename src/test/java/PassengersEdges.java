/** The edges of promises 1 to 11, and of what the terms say of passengers and of draws. */
final class PassengersEdges {
  private static final int BAD = ArguedFerry.BAD, NO = ArguedFerry.NO, FULL = ArguedFerry.FULL, NONE = ArguedFerry.NONE, KIND = ArguedFerry.KIND;
  private static final int NOTHING = ArguedFerry.NOTHING;
  private static final int[] ABOVE = {-1, 0, 0, 1, 2, 0};

  private PassengersEdges() {
  }

  static void askAll() {
    atFirst();
    nineAtMost();
    temperAndViews();
    kindsUnderOneAnother();
    worth();
    turns();
    bankOfOneAboard();
    windAndLimit();
    roomForThoseDealt();
    drawsWrap();
    fiveHundredAndTwelve();
  }

  private static ArguedFerry many(int n) {
    ArguedFerry x = new ArguedFerry();
    for (int one = 0; one < n; one++) {
      x.one(0, 0);
    }
    return x;
  }

  /** A draw by longs: what z becomes, without Java's wrap-around. */
  static int drawn(int z) {
    return (int) ((z * 1103515245L + 12345L) % (1L << 32));
  }

  /** What a draw gives that has made z. */
  static int given(int z) {
    return (int) ((z & 0xffffffffL) / 256);
  }

  private static void atFirst() {
    ArguedFerry x = new ArguedFerry();
    Sentence.of(1, "no PASSENGERS");
    Due.is("how many", x.count(0), 0);
    Due.is("passenger 0", x.told(0, 0), BAD);
    Due.is("those at bank 1", x.ferry(4), 0);
    Due.is("temper of all", x.ferry(5), 0);
    Sentence.ofTerms(1, "THE BOAT is at BANK 0 at first, with nobody ABOARD");
    Due.is("bank", x.boat(0), 0);
    Due.is("way", x.boat(1), 0);
    Due.is("who", x.boat(2), NONE);
    Sentence.ofTerms(1, "WIND 0 .. 9 (1 at first), LIMIT 1 .. 99 (40)");
    Due.is("wind", x.count(2), 1);
    Due.is("limit", x.count(3), 40);
    Sentence.ofTerms(1, "CROSSED, STRANDED, CAPSIZED, IDLE are 0 at first; THE MINUTE is 0 at first");
    for (int what = 0; what < 4; what++) {
      Due.is("ferry " + what, x.ferry(what), 0);
    }
    Due.is("the minute", x.count(1), 0);
    Sentence.ofTerms(2, "z is told (1 at first)");
    Due.is("z", x.count(7), 1);
    Sentence.ofTerms(5, "or MISSING (at first)");
    for (int sheet = 0; sheet < 4; sheet++) {
      Due.is("sheet " + sheet, x.pour(sheet), NOTHING);
    }
    Sentence.ofTerms(5, "each hold nothing (at first)");
    for (int slot = 0; slot < 5; slot++) {
      Due.is("slot " + slot, x.rest(slot, 1), NOTHING);
      Due.is("slot " + slot, x.lay(slot, 0, 0), 0);
    }
    Due.is("texts", x.count(4), 0);
    Due.is("numbers that wait", x.count(5), 0);
    Due.is("bytes of the tape", x.count(6), 0);
    Due.is("image", x.back(), NO);
  }

  private static void nineAtMost() {
    Sentence.ofTerms(1, "9 at most, numbered from 0");
    ArguedFerry x = new ArguedFerry();
    for (int one = 0; one < 9; one++) {
      Due.is("one more", x.one(5, 1), one);
    }
    Sentence.of(2, "FULL");
    Due.is("a tenth", x.one(5, 1), FULL);
    Due.is("a tenth of another kind, at the other bank", x.one(0, 0), FULL);
    Due.is("how many", x.count(0), 9);
    Due.is("passenger 9", x.told(9, 0), BAD);
    Sentence.of(2, "One more PASSENGER: its number");
    ArguedFerry dealt = new ArguedFerry();
    dealt.deal(8);
    Due.is("behind those dealt", dealt.one(0, 0), 8);
    Due.is("a tenth", dealt.one(0, 0), FULL);
  }

  private static void temperAndViews() {
    ArguedFerry x = many(9);
    Sentence.ofTerms(1, "TEMPER 0 .. 99");
    Due.is("99", x.set(8, 2, 99), 0);
    Due.is("100", x.set(8, 2, 100), BAD);
    Due.is("-1", x.set(8, 2, -1), BAD);
    Due.is("0", x.set(8, 2, 0), 99);
    Due.is("it is", x.told(8, 2), 0);
    Sentence.ofTerms(1, "VIEWS of MATTERS 0 .. 5, each -3 .. 3 (0 at first)");
    for (int matter = 0; matter < 6; matter++) {
      Due.is("at first", x.view(8, matter), 0);
      Due.is("-3", x.believes(8, matter, -3), 0);
      Due.is("-4", x.believes(8, matter, -4), BAD);
      Due.is("it is", x.view(8, matter), -3);
      Due.is("3", x.believes(8, matter, 3), -3);
      Due.is("4", x.believes(8, matter, 4), BAD);
      Due.is("it is", x.view(8, matter), 3);
    }
    Due.is("matter 6", x.believes(8, 6, 0), BAD);
    Due.is("matter -1", x.view(8, -1), BAD);
    Sentence.of(4, "VIEW of a PASSENGER of a MATTER");
    Due.is("passenger 9", x.view(9, 0), BAD);
    Due.is("matter 6", x.view(8, 6), BAD);
    Due.is("the last of the last", x.view(8, 5), 3);
    Sentence.of(5, "VIEW of a PASSENGER of a MATTER becomes v: what it was");
    for (int one = 0; one < 8; one++) {
      for (int matter = 0; matter < 6; matter++) {
        Due.is("of others it stays", x.view(one, matter), 0);
      }
    }
  }

  private static void kindsUnderOneAnother() {
    Sentence.of(6, "A PASSENGER as one of a KIND: TEMPER");
    Sentence.ofTerms(1, "0 PASSENGER; 1 MARRIED, 2 HIRED, 5 GOAT, under PASSENGER; 3 TWICE, under MARRIED; 4 SILENT, under HIRED (all are PASSENGERS)");
    for (int kind = 0; kind < 6; kind++) {
      ArguedFerry x = new ArguedFerry();
      x.one(kind, 0);
      x.set(0, 2, 99);
      Due.is(kind + " is a passenger", x.as(0, 0), 99);
      Due.is(kind + " is what it is", x.as(0, kind), 99);
      Due.is(kind + " is what stands above it", x.as(0, Math.max(0, ABOVE[kind])), 99);
    }
    Sentence.of(6, "KIND: it is not of that KIND, nor of one under it");
    for (int kind = 0; kind < 6; kind++) {
      ArguedFerry x = new ArguedFerry();
      x.one(kind, 0);
      x.set(0, 2, 61);
      for (int as = 0; as < 6; as++) {
        boolean under = false;
        for (int above = kind; above >= 0; above = ABOVE[above]) {
          under = under || above == as;
        }
        Due.is(kind + " as " + as, x.as(0, as), under ? 61 : KIND);
      }
    }
    Sentence.of(6, "BAD: one, kind");
    ArguedFerry x = many(1);
    Due.is("one", x.as(1, 0), BAD);
    Due.is("kind", x.as(0, 6), BAD);
    Due.is("kind", x.as(0, -1), BAD);
  }

  private static void worth() {
    Sentence.ofTerms(1, "WORTH: PASSENGER: TEMPER. MARRIED: as PASSENGER, and 4. TWICE: twice as MARRIED. HIRED: 120 less TEMPER. SILENT: as HIRED, less 6. GOAT: 3.");
    int[] cool = {0, 4, 120, 8, 114, 3};
    int[] hot = {99, 103, 21, 206, 15, 3};
    for (int kind = 0; kind < 6; kind++) {
      ArguedFerry x = new ArguedFerry();
      x.one(kind, 1);
      Due.is("with temper 0", x.told(0, 3), cool[kind]);
      x.set(0, 2, 99);
      Due.is("with temper 99", x.told(0, 3), hot[kind]);
    }
    Sentence.of(3, "what 0 KIND, 1 BANK, 2 TEMPER, 3 WORTH");
    ArguedFerry x = new ArguedFerry();
    x.one(3, 1);
    x.set(0, 2, 5);
    int[] due = {3, 1, 5, 18};
    for (int what = 0; what < 4; what++) {
      Due.is("what " + what, x.told(0, what), due[what]);
    }
  }

  private static void turns() {
    Sentence.of(7, "A PASSENGER is of another KIND from now on: what it was");
    ArguedFerry x = many(2);
    x.set(0, 2, 20);
    x.minutes(1);
    Due.is("one aboard", x.turns(0, 4), 0);
    Due.is("stays aboard", x.told(0, 1), 2);
    Due.is("its worth", x.told(0, 3), 94);
    Due.is("into what it is", x.turns(0, 4), 4);
    Due.is("as hired", x.as(0, 2), 20);
    Due.is("back", x.turns(0, 0), 4);
    Due.is("no more hired", x.as(0, 2), KIND);
    Due.is("the other one", x.told(1, 0), 0);
  }

  private static void bankOfOneAboard() {
    Sentence.of(8, "BANK (0, 1), TEMPER (what 1, 2) of a PASSENGER becomes v: what it was");
    ArguedFerry ashore = many(2);
    Due.is("bank 1", ashore.set(1, 1, 1), 0);
    Due.is("bank 1 again", ashore.set(1, 1, 1), 1);
    Due.is("bank 0", ashore.set(1, 1, 0), 1);
    Due.is("temper 1", ashore.set(1, 2, 1), 0);
    Due.is("the bank stays", ashore.told(1, 1), 0);
    Due.is("the other one stays", ashore.told(0, 2), 0);
    Due.is("what 0", ashore.set(1, 0, 1), BAD);
    Due.is("what 3", ashore.set(1, 3, 1), BAD);
    Sentence.ofTerms(1, "BANK 0, 1 (2 while ABOARD)");
    ArguedFerry x = many(3);
    x.minutes(1);
    Due.is("aboard", x.told(0, 1), 2);
    Due.is("aboard", x.told(1, 1), 2);
    Due.is("ashore", x.told(2, 1), 0);
    Sentence.of(8, "NO: BANK of one who is ABOARD");
    for (int one = 0; one < 2; one++) {
      for (int bank = 0; bank < 2; bank++) {
        Due.is("bank " + bank, x.set(one, 1, bank), NO);
        Due.is("it stays", x.told(one, 1), 2);
      }
      Due.is("there is no bank 2 to be set", x.set(one, 1, 2), BAD);
    }
    Due.is("one ashore", x.set(2, 1, 1), 0);
    Due.is("temper of one aboard", x.set(1, 2, 3), 0);
    x.minutes(1);
    Due.is("ashore again", x.set(1, 1, 1), 0);
  }

  private static void windAndLimit() {
    Sentence.of(9, "WIND, LIMIT (what 0, 1) becomes v: what it was");
    ArguedFerry x = new ArguedFerry();
    Due.is("wind 9", x.rule(0, 9), 1);
    Due.is("wind 10", x.rule(0, 10), BAD);
    Due.is("wind 0", x.rule(0, 0), 9);
    Due.is("wind -1", x.rule(0, -1), BAD);
    Due.is("limit 99", x.rule(1, 99), 40);
    Due.is("limit 100", x.rule(1, 100), BAD);
    Due.is("limit 1", x.rule(1, 1), 99);
    Due.is("limit 0", x.rule(1, 0), BAD);
    Due.is("wind", x.count(2), 0);
    Due.is("limit", x.count(3), 1);
  }

  private static void roomForThoseDealt() {
    Sentence.of(10, "n (1 .. 9) of them");
    Due.is("9", new ArguedFerry().deal(9), 9);
    Due.is("1", new ArguedFerry().deal(1), 1);
    Due.is("10", new ArguedFerry().deal(10), BAD);
    Due.is("0", new ArguedFerry().deal(0), BAD);
    Sentence.of(10, "as many as there is room for (no draws for others): how many came");
    for (int already = 0; already <= 9; already++) {
      ArguedFerry x = many(already);
      int z = 1;
      for (int i = 0; i < 8 * (9 - already); i++) {
        z = drawn(z);
      }
      Due.is("behind " + already, x.deal(9), 9 - already);
      Due.is("nine", x.count(0), 9);
      Due.is("draws", x.count(7), z);
      Due.is("no room", x.deal(1), 0);
      Due.is("no draws", x.count(7), z);
    }
    Sentence.ofTerms(2, "TEMPER is 0");
    ArguedFerry x = many(2);
    x.set(1, 2, 50);
    x.keep();
    x.deal(3);
    x.set(2, 2, 70);
    x.back();
    x.deal(3);
    Due.is("of one who came where another one was", x.told(2, 2), 0);
    x.back();
    Sentence.ofTerms(1, "VIEWS of MATTERS 0 .. 5, each -3 .. 3 (0 at first)");
    Due.is("one more", x.one(1, 0), 2);
    for (int matter = 0; matter < 6; matter++) {
      Due.is("of one who came where another one was", x.view(2, matter), 0);
    }
  }

  private static void drawsWrap() {
    Sentence.ofTerms(2, "z becomes z * 1103515245 + 12345 (an int); it gives z >>> 8");
    Sentence.ofTerms(2, "KIND the rest of a draw by 6, BANK that of one more by 2; then for each MATTER, by numbers, the VIEW is the rest of one more by 7, less 3");
    for (int seed : new int[] {1, 0, -1, 2, 3, 12345, Integer.MIN_VALUE, Integer.MAX_VALUE, 1000000007, -987654321}) {
      ArguedFerry x = new ArguedFerry();
      x.seed(seed);
      x.deal(9);
      int z = seed;
      for (int one = 0; one < 9; one++) {
        z = drawn(z);
        Due.is("kind by " + seed, x.told(one, 0), given(z) % 6);
        z = drawn(z);
        Due.is("bank by " + seed, x.told(one, 1), given(z) % 2);
        for (int matter = 0; matter < 6; matter++) {
          z = drawn(z);
          Due.is("view by " + seed, x.view(one, matter), given(z) % 7 - 3);
        }
      }
      Due.is("z by " + seed, x.count(7), z);
    }
    Sentence.of(11, "z becomes v: what it was");
    ArguedFerry x = new ArguedFerry();
    int was = 1;
    for (int v : new int[] {0, -1, Integer.MIN_VALUE, Integer.MAX_VALUE, ArguedFerry.BAD, 7}) {
      Due.is("seed " + v, x.seed(v), was);
      Due.is("z", x.count(7), v);
      was = v;
    }
  }

  private static void fiveHundredAndTwelve() {
    Sentence.of("what it is", "An object is used for at most 512 calls after it has been made");
    ArguedFerry x = many(1);
    for (int call = 1; call < 511; call++) {
      Due.is("call " + call, x.seed(call), call == 1 ? 1 : call - 1);
    }
    Due.is("the last call", x.count(7), 510);
  }
}
