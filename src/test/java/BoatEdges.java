/** The edges of promises 12 to 15, and of what the terms say of arguing and of a minute. */
final class BoatEdges {
  private static final int BAD = ArguedFerry.BAD, NONE = ArguedFerry.NONE;
  private static final int PASSENGER = 0, MARRIED = 1, HIRED = 2, TWICE = 3, SILENT = 4, GOAT = 5;

  private BoatEdges() {
  }

  static void askAll() {
    boat();
    apart();
    speaks();
    plainSpeech();
    heats();
    shifts();
    oneAndTheSame();
    twoOrMore();
    drifting();
    heating();
    theFirstOfThese();
    landing();
    stranding();
    shiftingOnlyElse();
    anotherMatter();
    minutes();
    ferry();
  }

  private static ArguedFerry two(int kind, int view, int other, int otherView) {
    return BoatTest.two(kind, view, other, otherView, 0);
  }

  private static void is(ArguedFerry x, String when, int crossed, int stranded, int capsized, int idle) {
    Due.is(when + ": crossed", x.ferry(0), crossed);
    Due.is(when + ": stranded", x.ferry(1), stranded);
    Due.is(when + ": capsized", x.ferry(2), capsized);
    Due.is(when + ": idle", x.ferry(3), idle);
  }

  private static void boat() {
    Sentence.of(12, "(2 .. 4: NONE)");
    ArguedFerry x = two(GOAT, 3, GOAT, -3);
    for (int what = 2; what < 5; what++) {
      Due.is("nobody is aboard", x.boat(what), NONE);
    }
    Sentence.of(12, "1 WAY (0: nobody is ABOARD)");
    Due.is("way", x.boat(1), 0);
    x.minutes(1);
    Due.is("way", x.boat(1), 1);
    Sentence.of(12, "(the lesser one first)");
    Due.is("the lesser one", x.boat(2), 0);
    Due.is("the other one", x.boat(3), 1);
    Sentence.of(12, "0 the BANK where it is, or from which it came");
    x.minutes(2);
    Due.is("from bank 0", x.boat(0), 0);
    x.minutes(1);
    Due.is("at bank 1", x.boat(0), 1);
    Sentence.of(12, "(2 .. 4: NONE)");
    for (int what = 2; what < 5; what++) {
      Due.is("nobody is aboard any more", x.boat(what), NONE);
    }
    x.minutes(3);
    Sentence.of(12, "0 the BANK where it is, or from which it came");
    Due.is("from bank 1", x.boat(0), 1);
    Due.is("who is aboard", x.boat(2), 0);
  }

  private static void apart() {
    Sentence.ofTerms(1, "APART (two, on a MATTER): by how much their VIEWS of it are unlike");
    for (int own = -3; own <= 3; own++) {
      for (int other = -3; other <= 3; other++) {
        Due.is(own + " and " + other, two(GOAT, own, GOAT, other).argues(0, 1, 5, 0), Math.abs(own - other));
      }
    }
    Sentence.of(13, "what 0 how far they are APART, 1 how much the one SPEAKS, 2 HEATS, 3 what its VIEW is when it SHIFTS");
    ArguedFerry x = two(TWICE, 3, MARRIED, -2);
    int[] one = {5, 14, 9, -2}, other = {5, 7, 10, -1};
    for (int what = 0; what < 4; what++) {
      Due.is("the one, what " + what, x.argues(0, 1, 0, what), one[what]);
      Due.is("the other, what " + what, x.argues(1, 0, 0, what), other[what]);
    }
    Due.is("what 4", x.argues(0, 1, 0, 4), BAD);
    Due.is("what -1", x.argues(0, 1, 0, -1), BAD);
  }

  private static void speaks() {
    Sentence.ofTerms(1, "SPEAKS: PASSENGER: PLAIN. MARRIED: as PASSENGER, and 2 if they are APART at all. TWICE: twice as MARRIED. HIRED: as PASSENGER, and 3. SILENT: 0.");
    for (int apart = 0; apart <= 6; apart++) {
      int married = apart == 0 ? 0 : apart + 2;
      int[] due = {apart, married, apart + 3, 2 * married, 0, apart};
      for (int kind = 0; kind < 6; kind++) {
        Due.is(kind + ", apart by " + apart, two(kind, apart - 3, GOAT, -3).argues(0, 1, 0, 1), due[kind]);
        Due.is(kind + ", apart by " + apart, two(kind, -3, GOAT, apart - 3).argues(0, 1, 5, 1), due[kind]);
      }
    }
  }

  private static void plainSpeech() {
    Sentence.ofTerms(1, "held within 0 .. 99 (without a TEXT: how far they are APART)");
    String[] texts = {"speech 99", "speech 100", "speech 98", "speech 0", "speech 0-1", "speech 1", "speech 9999", "speech 0-9999*9999*9", "speech 9999*9999*9999"};
    int[] plain = {99, 99, 98, 0, 0, 1, 99, 0, 9999 * 9999 * 9999 > 0 ? 99 : 0};
    for (int i = 0; i < texts.length; i++) {
      for (int apart = 0; apart < 2; apart++) {
        int married = plain[i] + 2 * apart;
        int[] due = {plain[i], married, plain[i] + 3, 2 * married, 0, plain[i]};
        for (int kind = 0; kind < 6; kind++) {
          ArguedFerry x = two(kind, apart, GOAT, 0);
          Due.text(x, texts[i]);
          Due.is(texts[i] + ", kind " + kind, x.argues(0, 1, 3, 1), due[kind]);
        }
      }
    }
    Due.is("without a text", two(PASSENGER, 3, GOAT, -3).argues(0, 1, 0, 1), 6);
  }

  private static void heats() {
    Sentence.ofTerms(1, "HEATS: PASSENGER: how far they are APART. MARRIED: twice as PASSENGER. TWICE: as MARRIED, less 1 (0 at least). HIRED: half (cut) of as PASSENGER. GOAT: 0.");
    for (int apart = 0; apart <= 6; apart++) {
      int[] due = {apart, 2 * apart, apart / 2, apart == 0 ? 0 : 2 * apart - 1, apart / 2, 0};
      for (int kind = 0; kind < 6; kind++) {
        Due.is(kind + ", apart by " + apart, two(kind, apart - 3, GOAT, -3).argues(0, 1, 0, 2), due[kind]);
      }
    }
  }

  /** What the VIEW of a hired one becomes, by rows of its own VIEW (-3 .. 3) and places of the other one's. */
  private static final String[] HIRED_SHIFTS = {"1000000", "2200000", "3331111", "4444222", "5555533", "6666664", "6666660"};

  private static void shifts() {
    for (int own = -3; own <= 3; own++) {
      for (int other = -3; other <= 3; other++) {
        int[] due = {own + Integer.compare(other, own), own + Integer.compare(other, own), 0, other, own, own};
        String when = own + " by " + other;
        Sentence.ofTerms(1, "PASSENGER: 1 nearer to it");
        Due.is(when, two(PASSENGER, own, GOAT, other).argues(0, 1, 2, 3), due[PASSENGER]);
        Sentence.ofTerms(1, "(A KIND that is not named does as the one above it.)");
        Due.is(when, two(MARRIED, own, GOAT, other).argues(0, 1, 2, 3), due[MARRIED]);
        Sentence.ofTerms(1, "TWICE: it is that");
        Due.is(when, two(TWICE, own, GOAT, other).argues(0, 1, 2, 3), due[TWICE]);
        Sentence.ofTerms(1, "SILENT, GOAT: it stays");
        Due.is(when, two(SILENT, own, GOAT, other).argues(0, 1, 2, 3), due[SILENT]);
        Due.is(when, two(GOAT, own, GOAT, other).argues(0, 1, 2, 3), due[GOAT]);
      }
    }
    Sentence.ofTerms(1, "HIRED: 1 away from it, -3 .. 3 (if they are alike: 1 more, or -3 behind 3)");
    for (int own = -3; own <= 3; own++) {
      for (int other = -3; other <= 3; other++) {
        int due = HIRED_SHIFTS[own + 3].charAt(other + 3) - '3';
        Due.is(own + " by " + other, two(HIRED, own, GOAT, other).argues(0, 1, 2, 3), due);
      }
    }
  }

  private static void oneAndTheSame() {
    Sentence.of(13, "BAD: also one and the same");
    ArguedFerry x = two(GOAT, 3, GOAT, -3);
    for (int one = 0; one < 2; one++) {
      for (int what = 0; what < 4; what++) {
        Due.is("with itself", x.argues(one, one, 0, what), BAD);
      }
    }
    Sentence.of(13, "Of one PASSENGER with another one, on a MATTER, now");
    Due.is("now", x.argues(1, 0, 5, 0), 6);
    x.believes(1, 5, 3);
    Due.is("of one mind", x.argues(1, 0, 5, 0), 0);
    Due.is("on another matter", x.argues(1, 0, 4, 0), 6);
  }

  private static void twoOrMore() {
    Sentence.ofTerms(2, "else IDLE is 1 more, and THE BOAT is at the other BANK");
    ArguedFerry nobody = new ArguedFerry();
    nobody.minutes(1);
    Due.is("nobody: bank", nobody.boat(0), 1);
    nobody.minutes(1);
    Due.is("nobody: bank", nobody.boat(0), 0);
    is(nobody, "nobody", 0, 0, 0, 2);
    ArguedFerry apart = new ArguedFerry();
    apart.one(0, 0);
    apart.one(0, 1);
    apart.minutes(7);
    is(apart, "one at each bank", 0, 0, 0, 7);
    Due.is("bank", apart.boat(0), 1);
    Due.is("no draws", apart.count(7), 1);
    Sentence.ofTerms(2, "if two PASSENGERS or more are at the BANK where THE BOAT is, the first two of them go ABOARD, WAY is 1");
    apart.one(0, 1);
    apart.minutes(1);
    Due.is("two: way", apart.boat(1), 1);
    Due.is("two: the first", apart.boat(2), 1);
    Due.is("two: the other", apart.boat(3), 2);
    Due.is("one at the other bank stays", apart.told(0, 1), 0);
    ArguedFerry nine = new ArguedFerry();
    for (int one = 0; one < 9; one++) {
      nine.one(GOAT, one == 0 ? 1 : 0);
    }
    nine.minutes(1);
    Due.is("more: the first", nine.boat(2), 1);
    Due.is("more: the other", nine.boat(3), 2);
    Due.is("a third stays", nine.told(3, 1), 0);
    Sentence.ofTerms(2, "the MATTER is the rest of a draw by 6");
    for (int seed = -20; seed < 20; seed++) {
      ArguedFerry x = two(GOAT, 3, GOAT, -3);
      x.seed(seed * 123456789);
      x.minutes(1);
      int z = PassengersEdges.drawn(seed * 123456789);
      Due.is("matter", x.boat(4), PassengersEdges.given(z) % 6);
      Due.is("one draw", x.count(7), z);
    }
  }

  private static void drifting() {
    Sentence.ofTerms(2, "but if they are not APART at all, WAY is less by 1 and WIND");
    // goats 3 apart go 6 less 1; then they are of one mind
    for (int wind = 0; wind <= 9; wind++) {
      ArguedFerry x = two(GOAT, 3, GOAT, 0);
      x.minutes(2);
      x.rule(0, wind);
      for (int matter = 0; matter < 6; matter++) {
        x.believes(0, matter, 0);
      }
      x.minutes(1);
      Due.is("way with wind " + wind, x.boat(1), Math.max(0, 6 - 1 - wind));
      Due.is("stranded with wind " + wind, x.ferry(1), wind >= 5 ? 1 : 0);
    }
    ArguedFerry hired = two(HIRED, 1, HIRED, 1);
    Due.text(hired, "speech 99");
    hired.minutes(2);
    is(hired, "speech is nothing then", 0, 1, 0, 0);
    Sentence.ofTerms(2, "WAY is more by what both SPEAK, together, less WIND");
    for (int wind = 0; wind <= 9; wind++) {
      ArguedFerry x = two(GOAT, 3, HIRED, -3);
      x.rule(0, wind);
      x.minutes(2);
      Due.is("way with wind " + wind, x.boat(1), 1 + 6 + 9 - wind);
    }
    Sentence.ofTerms(2, "less WIND");
    ArguedFerry back = two(GOAT, 1, GOAT, 0);
    back.minutes(3);
    Due.is("way", back.boat(1), 3);
    back.rule(0, 4);
    back.minutes(1);
    Due.is("against the wind", back.boat(1), 1);
    is(back, "against the wind", 0, 0, 0, 0);
  }

  private static void heating() {
    Sentence.ofTerms(2, "TEMPER of each is more by what it HEATS (99 at most)");
    int[] heat = {6, 12, 3, 11, 3, 0};
    for (int kind = 0; kind < 6; kind++) {
      ArguedFerry x = two(kind, 3, GOAT, -3);
      x.set(0, 2, 10);
      x.set(1, 2, 7);
      x.minutes(2);
      Due.is("kind " + kind, x.told(0, 2), 10 + heat[kind]);
      Due.is("the goat", x.told(1, 2), 7);
    }
    ArguedFerry spoken = two(PASSENGER, 3, PASSENGER, -3);
    Due.text(spoken, "speech t+1");
    spoken.minutes(2);
    Due.is("they speak ahead of the heat of that minute", spoken.boat(1), 1 + 1 + 1 - 1);
    spoken.minutes(1);
    Due.is("and behind that of the one before", spoken.boat(1), 2 + 7 + 7 - 1);
    ArguedFerry hot = two(MARRIED, 3, MARRIED, -3);
    hot.rule(1, 99);
    hot.minutes(1);
    hot.set(0, 2, 99);
    hot.set(1, 2, 99);
    hot.minutes(1);
    is(hot, "no hotter than 99", 0, 0, 1, 0);
    Sentence.ofTerms(2, "is TEMPER of both, together, LIMIT or more, CAPSIZED is 1 more, TEMPER of both is 0, they are at the BANK from which they came, THE BOAT, too");
    for (int limit = 1; limit <= 99; limit++) {
      for (int off = -1; off <= 1; off++) {
        ArguedFerry x = two(GOAT, 3, GOAT, -3);
        int heated = Math.max(0, limit + off);
        x.rule(1, limit);
        x.set(0, 2, heated / 2);
        x.set(1, 2, heated - heated / 2);
        x.minutes(2);
        boolean over = heated >= limit;
        String when = heated + " with limit " + limit;
        Due.is(when, x.ferry(2), over ? 1 : 0);
        Due.is(when + ", temper", x.ferry(5), over ? 0 : heated);
        Due.is(when + ", where", x.told(1, 1), over ? 0 : 2);
        Due.is(when + ", way", x.boat(1), over ? 0 : 12);
      }
    }
    ArguedFerry far = BoatTest.two(PASSENGER, 3, GOAT, -3, 1);
    far.rule(1, 6);
    far.minutes(3);
    is(far, "from bank 1", 0, 0, 1, 1);
    Due.is("bank of the boat", far.boat(0), 1);
    Due.is("bank of both", far.ferry(4), 3);
    Due.is("temper", far.ferry(5), 0);
  }

  private static void theFirstOfThese() {
    Sentence.ofTerms(2, "Then the first of these");
    ArguedFerry over = two(GOAT, 3, GOAT, -3);
    Due.text(over, "speech 99");
    over.set(1, 2, 40);
    over.minutes(2);
    is(over, "hot ones who would be over", 0, 0, 1, 0);
    Due.is("they are back", over.ferry(4), 0);
    ArguedFerry stranded = two(GOAT, 3, GOAT, 3);
    stranded.set(0, 2, 40);
    stranded.minutes(2);
    is(stranded, "hot ones who would be stranded", 0, 0, 1, 0);
    Due.is("temper", stranded.ferry(5), 0);
  }

  private static void landing() {
    Sentence.ofTerms(2, "Is WAY 30 or more, CROSSED is 2 more, they are at the other BANK, THE BOAT, too");
    // 1 a minute: two goats 2 apart against wind 3
    ArguedFerry x = two(GOAT, 1, GOAT, -1);
    x.rule(0, 3);
    x.minutes(29);
    Due.is("29 is not enough", x.boat(1), 29);
    is(x, "29", 0, 0, 0, 0);
    x.minutes(1);
    is(x, "30", 2, 0, 0, 0);
    Due.is("way", x.boat(1), 0);
    Due.is("those over", x.ferry(4), 3);
    Due.is("the boat", x.boat(0), 1);
    Due.is("temper stays", x.ferry(5), 0);
    x.minutes(30);
    is(x, "and back", 4, 0, 0, 0);
    Due.is("those over", x.ferry(4), 0);
    Due.is("the boat", x.boat(0), 0);
    ArguedFerry far = two(TWICE, 3, TWICE, -3);
    Due.text(far, "speech 99");
    far.minutes(2);
    is(far, "far more than 30", 2, 0, 0, 0);
    Due.is("they stay as hot", far.ferry(5), 22);
    Sentence.ofTerms(1, "WAY 1 .. 29 is done");
    for (int speech = 10; speech < 20; speech++) {
      ArguedFerry y = two(GOAT, 1, GOAT, -1);
      y.rule(0, 0);
      Due.text(y, "speech " + speech);
      y.minutes(2);
      Due.is("way by " + speech, y.boat(1), speech < 15 ? 1 + 2 * speech : 0);
    }
  }

  private static void stranding() {
    Sentence.ofTerms(2, "Is WAY 0 or less, STRANDED is 1 more, they are at the BANK from which they came, THE BOAT, too");
    ArguedFerry zero = two(GOAT, 2, GOAT, 2);
    zero.rule(0, 0);
    zero.minutes(2);
    is(zero, "way 0", 0, 1, 0, 0);
    Due.is("way", zero.boat(1), 0);
    Due.is("the boat", zero.boat(0), 0);
    ArguedFerry less = BoatTest.two(GOAT, 2, GOAT, 2, 1);
    less.rule(0, 9);
    less.minutes(3);
    is(less, "way -9", 0, 1, 0, 1);
    Due.is("the boat", less.boat(0), 1);
    Due.is("those at bank 1", less.ferry(4), 3);
    // goats 1 apart against wind 2 stay where they are
    ArguedFerry still = two(GOAT, 1, GOAT, 0);
    still.rule(0, 2);
    still.minutes(50);
    is(still, "way 1", 0, 0, 0, 0);
    Due.is("way", still.boat(1), 1);
    still.rule(0, 3);
    still.set(0, 2, 9);
    still.minutes(1);
    is(still, "way 0", 0, 1, 0, 0);
    Due.is("temper stays", still.ferry(5), 9);
  }

  private static void shiftingOnlyElse() {
    Sentence.ofTerms(2, "Else the VIEWS of both of their MATTER SHIFT (each by what they were)");
    ArguedFerry twice = two(TWICE, 3, TWICE, -2);
    twice.minutes(1);
    int matter = twice.boat(4);
    twice.minutes(1);
    Due.is("the one", twice.view(0, matter), -2);
    Due.is("the other", twice.view(1, matter), 3);
    for (int other = 0; other < 6; other++) {
      Due.is("of other matters they stay", twice.view(0, other), other == matter ? -2 : 3);
    }
    String[] ends = {"capsized", "over", "stranded"};
    for (int end = 0; end < 3; end++) {
      ArguedFerry x = two(TWICE, 3, TWICE, 2);
      x.rule(1, end == 0 ? 1 : 99);
      x.rule(0, 9);
      Due.text(x, end == 1 ? "speech 99" : "speech 0");
      x.minutes(2);
      Due.is(ends[end], x.boat(1), 0);
      Due.is(ends[end], x.ferry(end == 0 ? 2 : end == 1 ? 0 : 1), end == 1 ? 2 : 1);
      for (int m = 0; m < 6; m++) {
        Due.is(ends[end] + ": views stay", x.view(0, m) * 10 + x.view(1, m), 32);
      }
      Due.is(ends[end] + ": no other draw", x.count(7), PassengersEdges.drawn(1));
    }
  }

  private static void anotherMatter() {
    Sentence.ofTerms(2, "and if they are not APART then, the MATTER is the rest of a draw by 6");
    int once = PassengersEdges.drawn(1), twice = PassengersEdges.drawn(once);
    ArguedFerry meet = two(PASSENGER, 2, PASSENGER, 0);
    meet.minutes(2);
    Due.is("they meet: a draw", meet.count(7), twice);
    Due.is("they meet: the matter", meet.boat(4), PassengersEdges.given(twice) % 6);
    ArguedFerry pass = two(PASSENGER, 1, PASSENGER, 0);
    pass.rule(0, 0);
    pass.minutes(2);
    Due.is("they pass one another: no draw", pass.count(7), once);
    Due.is("they pass one another: the matter", pass.boat(4), PassengersEdges.given(once) % 6);
    ArguedFerry drift = two(GOAT, 3, GOAT, 0);
    drift.minutes(2);
    drift.rule(0, 0);
    for (int matter = 0; matter < 6; matter++) {
      drift.believes(0, matter, 0);
    }
    drift.minutes(1);
    Due.is("still of one mind: a draw", drift.count(7), twice);
    ArguedFerry hired = two(HIRED, 1, GOAT, 3);
    hired.minutes(2);
    int matter = hired.boat(4);
    hired.believes(0, matter, 3);
    hired.rule(0, 0);
    hired.minutes(1);
    Due.is("a hired one is never of one mind", hired.view(0, matter), -3);
    Due.is("no draw", hired.count(7), once);
  }

  private static ArguedFerry lateGoats(int minute) {
    ArguedFerry x = new ArguedFerry();
    for (int left = minute; left > 0; left -= 100) {
      x.minutes(Math.min(100, left));
    }
    x.one(GOAT, minute % 2);
    x.one(GOAT, minute % 2);
    for (int matter = 0; matter < 6; matter++) {
      x.believes(0, matter, 3);
      x.believes(1, matter, -3);
    }
    return x;
  }

  private static void minutes() {
    Sentence.of(14, "n (1 .. 100) MINUTES");
    ArguedFerry x = new ArguedFerry();
    x.minutes(100);
    Due.is("100", x.count(1), 100);
    x.minutes(1);
    Due.is("1 more", x.count(1), 101);
    Due.is("101", x.minutes(101), BAD);
    Due.is("0", x.minutes(0), BAD);
    Due.is("none passed", x.count(1), 101);
    Sentence.ofTerms(2, "THE MINUTE is 1 more");
    ArguedFerry each = two(GOAT, 3, GOAT, -3);
    for (int minute = 1; minute <= 9; minute++) {
      each.minutes(1);
      Due.is("idle, under way, or over", each.count(1), minute);
    }
    Sentence.of(14, "(no more than up to 9999)");
    ArguedFerry last = lateGoats(9995);
    Due.is("4 are enough to be over", last.minutes(100), 2);
    Due.is("the minute", last.count(1), 9999);
    Sentence.ofTerms(1, "9999 at most");
    Due.is("no more", last.minutes(1), 0);
    Due.is("no more", last.minutes(100), 0);
    Due.is("the minute", last.count(1), 9999);
    Due.is("nobody went aboard", last.boat(1), 0);
    is(last, "nothing happened", 2, 0, 0, 9995);
    ArguedFerry late = lateGoats(9996);
    Due.is("3 are not", late.minutes(4), 0);
    Due.is("the minute", late.count(1), 9999);
    Due.is("way", late.boat(1), 23);
    ArguedFerry exact = lateGoats(9989);
    Due.is("10 of 10", exact.minutes(10), 4);
    Due.is("the minute", exact.count(1), 9999);
    Sentence.of(14, "by how much CROSSED is more");
    ArguedFerry goats = two(GOAT, 3, GOAT, -3);
    Due.is("once", goats.minutes(4), 2);
    Due.is("not yet again", goats.minutes(3), 0);
    Due.is("twice more", goats.minutes(5), 4);
    Due.is("in all", goats.ferry(0), 6);
    Sentence.of(14, "BAD");
    Due.is("at the end, too", last.minutes(0), BAD);
    Due.is("at the end, too", last.minutes(101), BAD);
  }

  private static void ferry() {
    Sentence.of(15, "What is 0 CROSSED, 1 STRANDED, 2 CAPSIZED, 3 IDLE");
    ArguedFerry all = BoatTest.two(GOAT, 3, GOAT, -3, 1);
    all.minutes(5);
    is(all, "idle, then over", 2, 0, 0, 1);
    all.set(0, 2, 40);
    all.minutes(2);
    is(all, "then capsized", 2, 0, 1, 1);
    all.rule(0, 9);
    Due.text(all, "speech 0");
    all.minutes(2);
    is(all, "then stranded", 2, 1, 1, 1);
    Sentence.of(15, "4 those at BANK 1, as a set");
    ArguedFerry x = new ArguedFerry();
    Due.is("nobody", x.ferry(4), 0);
    for (int one = 0; one < 9; one++) {
      x.one(GOAT, 1);
      Due.is("all of them", x.ferry(4), (2 << one) - 1);
    }
    x.set(0, 1, 0);
    x.set(8, 1, 0);
    Due.is("without the first and the last", x.ferry(4), 254);
    x.minutes(1);
    Due.is("0 and 8 are aboard", x.boat(2) + x.boat(3), 8);
    Due.is("0 and 8 are aboard", x.ferry(4), 254);
    Sentence.ofTerms(0, "Sets of PASSENGERS are told by bits");
    x.set(4, 1, 0);
    Due.is("4 is at bank 0", x.ferry(4), 254 - 16);
    Sentence.of(15, "5 TEMPER of all, together");
    for (int one = 0; one < 9; one++) {
      x.set(one, 2, 99);
    }
    Due.is("as hot as can be, those aboard, too", x.ferry(5), 891);
    Due.is("nobody", new ArguedFerry().ferry(5), 0);
    Sentence.of(15, "BAD");
    Due.is("what 6", x.ferry(6), BAD);
    Due.is("what -1", x.ferry(-1), BAD);
  }
}
