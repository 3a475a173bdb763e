/** The edges of promises 16 to 25, and of what the terms say of what is only thought. */
final class ThoughtEdges {
  private static final int BAD = ArguedFerry.BAD, NONE = ArguedFerry.NONE, NOTHING = ArguedFerry.NOTHING;
  private static final int PASSENGER = 0, MARRIED = 1, HIRED = 2, TWICE = 3, SILENT = 4, GOAT = 5;

  private ThoughtEdges() {
  }

  static void askAll() {
    overByForty();
    overAheadOfMishaps();
    overFromBankZero();
    overAsItComes();
    settles();
    pairs();
    behind();
    lands();
    calm();
    becomes();
    like();
    likeAtItsEdges();
    withoutTheBound();
    fee();
    fine();
  }

  /** Goats that are apart by 6 from those next to them, at a bank: two of them are over behind 4 minutes. */
  private static ArguedFerry goats(int many, int bank) {
    ArguedFerry x = new ArguedFerry();
    for (int one = 0; one < many; one++) {
      x.one(GOAT, bank);
      for (int matter = 0; matter < 6; matter++) {
        x.believes(one, matter, one % 2 == 0 ? 3 : -3);
      }
    }
    return x;
  }

  private static void overByForty() {
    Sentence.ofTerms(3, "behind how many MINUTES (1 .. 40) they are at the other BANK first");
    Sentence.of(16, "NONE: not by then");
    for (int last = 0; last <= 42; last++) {
      ArguedFerry x = goats(2, 0);
      x.rule(0, 0);
      Due.text(x, "speech (n=" + last + ")*50");
      Due.is("over in minute " + last, x.over(0, 1, 3), last < 40 ? last + 1 : NONE);
      Due.is("over in minute " + last, x.settles(0, 1, 1), last < 40 ? last + 1 : NONE);
      Due.is("over in minute " + last, x.pairs(0), last < 40 ? 1 : 0);
    }
    Sentence.of(16, "BAD: also one and the same");
    ArguedFerry x = goats(2, 0);
    Due.is("with itself", x.over(0, 0, 0), BAD);
    Due.is("with itself", x.over(1, 1, 0), BAD);
    Due.is("with another one", x.over(1, 0, 0), 3);
  }

  private static void overAheadOfMishaps() {
    Sentence.ofTerms(3, "if they are not CAPSIZED or STRANDED ahead of that");
    ArguedFerry hot = goats(2, 0);
    hot.set(0, 2, 20);
    hot.set(1, 2, 20);
    Due.is("capsized, though they would be over the next time", hot.over(0, 1, 0), NONE);
    hot.set(1, 2, 19);
    Due.is("not as hot as that", hot.over(0, 1, 0), 3);
    ArguedFerry calm = goats(2, 0);
    Due.text(calm, "speech (n>0)*50");
    Due.is("stranded, though they would be over the next time", calm.over(0, 1, 0), NONE);
    calm.rule(0, 0);
    Due.is("without wind they are not", calm.over(0, 1, 0), 2);
    ArguedFerry agreed = goats(2, 0);
    agreed.rule(0, 0);
    agreed.believes(1, 4, 3);
    Due.is("of one mind", agreed.over(0, 1, 4), NONE);
    Due.is("on another matter", agreed.over(0, 1, 5), 3);
    ArguedFerry late = BoatTest.two(MARRIED, 3, GOAT, -3, 0);
    late.rule(1, 22);
    Due.is("capsized in the second minute", late.over(0, 1, 0), NONE);
    late.rule(1, 23);
    Due.is("a limit above that", late.behind(3, 2), 0);
  }

  private static void overFromBankZero() {
    Sentence.ofTerms(3, "went they off now from BANK 0 (WAY 1, nobody else being ABOARD)");
    ArguedFerry x = goats(4, 0);
    for (int minute = 0; minute < 30; minute++) {
      Due.is("0 and 1, whether they are aboard or not", x.over(0, 1, minute % 6), 3);
      Due.is("2 and 3, whoever is aboard", x.over(2, 3, minute % 6), 3);
      Due.is("1 and 2", x.over(2, 1, minute % 6), 3);
      Due.is("0 and 2 are of one mind", x.over(0, 2, minute % 6), NONE);
      x.minutes(1);
    }
    ArguedFerry far = goats(2, 1);
    Due.is("from bank 1, too", far.over(0, 1, 0), 3);
    far.set(0, 1, 0);
    Due.is("one at each bank", far.over(0, 1, 0), 3);
    far.minutes(1);
    Due.is("the boat at bank 1", far.over(0, 1, 0), 3);
  }

  /** Those who have just gone off get over as it was thought, draws and heat and all. */
  private static void overAsItComes() {
    Sentence.ofTerms(3, "z as it is");
    for (int seed = 0; seed < 60; seed++) {
      ArguedFerry x = new ArguedFerry();
      x.seed(seed * 1000003);
      x.deal(9);
      x.rule(0, seed % 4);
      x.rule(1, 99 - seed % 30);
      for (int i = 0; i < 100 && x.boat(1) != 1; i++) {
        x.minutes(1);
      }
      int thought = x.over(x.boat(2), x.boat(3), x.boat(4));
      int z = x.count(7);
      Due.is("no draws", x.count(7), z);
      int came = NONE;
      for (int minute = 1; minute <= 40 && x.boat(1) > 0; minute++) {
        came = x.minutes(1) > 0 ? minute : NONE;
      }
      Due.is("seed " + seed, thought, came);
    }
  }

  private static void settles() {
    Sentence.ofTerms(3, "the MATTER on which they are OVER soonest; of several the least");
    ArguedFerry x = goats(2, 0);
    Due.is("on all alike: the least", x.settles(0, 1, 0), 0);
    Due.is("behind", x.settles(0, 1, 1), 3);
    for (int matter = 0; matter < 5; matter++) {
      x.believes(0, matter, 1);
      Due.is("those before take longer", x.settles(0, 1, 0), matter + 1);
    }
    x.believes(0, 5, 1);
    Due.is("on all alike again", x.settles(1, 0, 0), 0);
    Due.is("behind", x.settles(1, 0, 1), 5);
    x.believes(0, 2, 3);
    Due.is("those behind take longer, too", x.settles(0, 1, 0), 2);
    Due.is("behind", x.settles(0, 1, 1), 3);
    Sentence.of(17, "what 0 the MATTER, 1 behind how many MINUTES");
    Due.is("what 2", x.settles(0, 1, 2), BAD);
    Due.is("what -1", x.settles(0, 1, -1), BAD);
    Sentence.of(17, "NONE: on none");
    for (int matter = 0; matter < 6; matter++) {
      x.believes(0, matter, -3);
    }
    Due.is("of one mind", x.settles(0, 1, 0), NONE);
    Due.is("of one mind", x.settles(0, 1, 1), NONE);
    x.believes(0, 5, 3);
    Due.is("but on the last", x.settles(0, 1, 0), 5);
    Due.is("behind", x.settles(0, 1, 1), 3);
    Sentence.of(17, "BAD: also one and the same");
    Due.is("with itself", x.settles(0, 0, 0), BAD);
    Due.is("with itself", x.settles(1, 1, 1), BAD);
  }

  /** Goats, of matters 0 to 5 each pair of which, told by a text as "01 12", is apart by 6 on a matter of its own. */
  private static ArguedFerry friends(int many, String pairs) {
    ArguedFerry x = new ArguedFerry();
    for (int one = 0; one < many; one++) {
      x.one(GOAT, 0);
    }
    // 6 apart go 12, 3 apart go 6: against wind 7 only the first get over
    x.rule(0, 7);
    String[] words = pairs.split(" ");
    for (int matter = 0; matter < words.length; matter++) {
      x.believes(words[matter].charAt(0) - '0', matter, 3);
      x.believes(words[matter].charAt(1) - '0', matter, -3);
    }
    return x;
  }

  private static void pairs() {
    Sentence.ofTerms(3, "how many pairs at most can be made of PASSENGERS that are there (none of them twice) each of which is OVER on some MATTER");
    Due.is("a pair", friends(2, "01").pairs(0), 1);
    Due.is("a chain of three", friends(3, "01 12").pairs(0), 1);
    Due.is("a chain of four", friends(4, "12 01 23").pairs(0), 2);
    Due.is("a ring of three", friends(3, "01 12 20").pairs(0), 1);
    Due.is("a ring of five", friends(5, "01 12 23 34 40").pairs(0), 2);
    Due.is("a ring of six", friends(6, "03 31 14 42 25 50").pairs(0), 3);
    Due.is("a star", friends(7, "60 61 62 63 64 65").pairs(0), 1);
    Due.is("two stars", friends(8, "70 71 72 63 64 65").pairs(0), 2);
    Due.is("the last two of nine", friends(9, "87").pairs(0), 1);
    Due.is("four of nine", friends(9, "01 23 45 67").pairs(0), 4);
    Due.is("a chain of nine cut short", friends(9, "12 34 56 78 01 23").pairs(0), 4);
    Due.is("none", friends(9, "00").pairs(0), 0);
    Due.is("nobody", new ArguedFerry().pairs(0), 0);
    Due.is("nobody", new ArguedFerry().pairs(1), 0);
    Due.is("one alone", goats(1, 0).pairs(0), 0);
    Due.is("nine", goats(9, 1).pairs(1), 4);
    Due.is("nobody there", goats(9, 1).pairs(0), 0);
    Sentence.of(18, "PAIRS of a BANK");
    ArguedFerry x = goats(4, 0);
    x.minutes(1);
    Due.is("those aboard are not there", x.pairs(0), 1);
    Due.is("nor there", x.pairs(1), 0);
    x.minutes(3);
    Due.is("at bank 0", x.pairs(0), 1);
    Due.is("at bank 1", x.pairs(1), 1);
    x.set(1, 1, 0);
    Due.is("three and one", x.pairs(0), 1);
    Due.is("three and one", x.pairs(1), 0);
    for (int there = 0; there < 2; there++) {
      ArguedFerry apart = goats(2, there);
      apart.set(0, 1, 1 - there);
      Due.is("one at each bank", apart.pairs(0), 0);
      Due.is("one at each bank", apart.pairs(1), 0);
    }
    Sentence.of(18, "BAD");
    Due.is("bank 2 is none, though two are aboard", goats(2, 0).pairs(2), BAD);
  }

  private static void behind() {
    Sentence.of(19, "what 0 CROSSED, 1 STRANDED, 2 CAPSIZED, 3 IDLE, 4 those at BANK 1, as a set");
    Sentence.of(19, "BEHIND n (0 .. 100) MINUTES");
    for (int n : new int[] {0, 1, 2, 50, 99, 100}) {
      ArguedFerry x = new ArguedFerry();
      x.seed(n - 4);
      x.deal(9);
      x.minutes(3);
      int[] thought = new int[14];
      for (int what = 0; what < 14; what++) {
        thought[what] = x.behind(n, what);
      }
      if (n > 0) {
        x.minutes(n);
      }
      for (int what = 0; what < 14; what++) {
        Due.is("behind " + n + ", what " + what, thought[what], what < 5 ? x.ferry(what) : x.told(what - 5, 2));
      }
    }
    Due.is("101", goats(2, 0).behind(101, 0), BAD);
    Due.is("-1", goats(2, 0).behind(-1, 0), BAD);
    Sentence.of(19, "5 and k: TEMPER of PASSENGER k");
    for (int many = 0; many <= 9; many++) {
      ArguedFerry x = goats(many, 0);
      if (many > 0) {
        x.set(many - 1, 2, 9);
        Due.is("the last", x.behind(0, 4 + many), 9);
      }
      Due.is("behind the last", x.behind(0, 5 + many), BAD);
      Due.is("behind the last", x.behind(100, 5 + many), BAD);
    }
    Due.is("5 and k beyond all ints", goats(9, 0).behind(0, Integer.MAX_VALUE), BAD);
  }

  private static void lands() {
    Sentence.ofTerms(3, "behind how many MINUTES (0 .. 200) it is at BANK 1 first");
    for (int last : new int[] {1, 2, 100, 198, 199, 200, 201}) {
      ArguedFerry x = goats(2, 0);
      x.rule(0, 0);
      Due.text(x, "speech (n=" + last + ")*50");
      Due.is("over in minute " + last, x.lands(0), last < 200 ? last + 1 : NONE);
      Due.is("over in minute " + last, x.lands(1), last < 200 ? last + 1 : NONE);
    }
    Due.is("there", goats(3, 1).lands(2), 0);
    ArguedFerry from = goats(2, 1);
    from.minutes(2);
    Due.is("aboard, from bank 1: over, and back", from.lands(0), 7);
    ArguedFerry stranded = BoatTest.two(GOAT, 1, GOAT, 1, 1);
    stranded.minutes(2);
    Due.is("aboard, from bank 1: back at once", stranded.lands(1), 1);
    Sentence.of(20, "LANDS of a PASSENGER");
    Sentence.of(20, "NONE: not by then");
    Due.is("one alone", goats(1, 0).lands(0), NONE);
    Due.is("a third one", goats(3, 0).lands(2), NONE);
    Due.is("a pair", goats(2, 0).lands(0), 4);
    Sentence.of(20, "BAD");
    Due.is("one", goats(2, 0).lands(2), BAD);
    Due.is("nobody", new ArguedFerry().lands(0), BAD);
  }

  private static void calm() {
    Sentence.ofTerms(3, "the LIMIT, of 5, 10, .. 95, with which CROSSED is most behind n MINUTES; of several the least");
    for (int heat = 0; heat <= 99; heat++) {
      ArguedFerry x = goats(2, 0);
      x.rule(1, 1 + heat % 99);
      x.set(0, 2, heat / 3);
      x.set(1, 2, heat - heat / 3);
      boolean some = heat < 95;
      Due.is("limit above " + heat, x.calm(4, 0), some ? 5 * (heat / 5) + 5 : 5);
      Due.is("crossed with it", x.calm(4, 1), some ? 2 : 0);
      Due.is("the limit stays", x.count(3), 1 + heat % 99);
    }
    Sentence.of(21, "CALM for n (1 .. 60): what 0 LIMIT, 1 CROSSED");
    ArguedFerry x = goats(2, 0);
    Due.is("1", x.calm(1, 1), 0);
    Due.is("1", x.calm(1, 0), 5);
    Due.is("60", x.calm(60, 1), 30);
    Due.is("60", x.calm(60, 0), 5);
    Due.is("61", x.calm(61, 0), BAD);
    Due.is("0", x.calm(0, 0), BAD);
    x.minutes(8);
    Due.is("with what has crossed", x.calm(4, 1), 6);
    Due.is("nobody", new ArguedFerry().calm(60, 0), 5);
    Due.is("nobody", new ArguedFerry().calm(60, 1), 0);
  }

  private static void becomes() {
    Sentence.ofTerms(3, "the KIND as one of which CROSSED is most behind n MINUTES; of several the least");
    // way with a goat that is apart by 6: passenger 1, 12, 21, 28, 33; married 1, 14, 25, 34; hired 1, 15, 29, 43; goat 1, 12, 23, 34
    for (int kind = 0; kind < 6; kind++) {
      ArguedFerry x = BoatTest.two(kind, 3, GOAT, -3, 0);
      x.rule(1, 99);
      Due.is("none is over: the least", x.becomes(0, 2, 0), PASSENGER);
      Due.is("crossed", x.becomes(0, 2, 1), 0);
      Due.is("married, hired and goats are: the least", x.becomes(0, 4, 0), MARRIED);
      Due.is("crossed", x.becomes(0, 4, 1), 2);
      // hired 1, 7, 13, 19, 25, 31, heating by 3; passenger 1, 4, 5, 4 and capsized
      x.rule(0, 9);
      x.rule(1, 16);
      Due.is("hired alone are", x.becomes(0, 6, 0), HIRED);
      Due.is("crossed", x.becomes(0, 6, 1), 2);
      Due.is("none is yet", x.becomes(0, 5, 0), PASSENGER);
      Due.is("crossed", x.becomes(0, 5, 1), 0);
      Due.is("its kind stays", x.told(0, 0), kind);
    }
    ArguedFerry goat = BoatTest.two(TWICE, 3, GOAT, -3, 0);
    goat.rule(1, 3);
    Due.is("all but a goat heat", goat.becomes(0, 4, 0), GOAT);
    Due.is("crossed", goat.becomes(0, 4, 1), 2);
    ArguedFerry hushed = BoatTest.two(SILENT, 3, GOAT, -3, 0);
    Due.is("a silent one is an anchor", hushed.behind(6, 0), 0);
    Sentence.of(22, "for n (1 .. 60): what 0 the KIND, 1 CROSSED");
    ArguedFerry x = goats(2, 0);
    Due.is("1", x.becomes(1, 1, 1), 0);
    Due.is("60", x.becomes(1, 60, 1), mostAs(1, 60)[1]);
    Due.is("60", x.becomes(1, 60, 0), mostAs(1, 60)[0]);
    Due.is("61", x.becomes(1, 61, 0), BAD);
    Due.is("0", x.becomes(1, 0, 0), BAD);
    x.minutes(4);
    Due.is("with what has crossed", x.becomes(0, 1, 1), 2);
    Due.is("with what has crossed: the least", x.becomes(0, 1, 0), 0);
  }

  /** The kind as which one of two goats has most crossed, and how much, as it comes. */
  private static int[] mostAs(int one, int minutes) {
    int[] most = {-1, -1};
    for (int kind = 0; kind < 6; kind++) {
      ArguedFerry x = goats(2, 0);
      x.turns(one, kind);
      int crossed = x.minutes(minutes);
      if (crossed > most[1]) {
        most = new int[] {kind, crossed};
      }
    }
    return most;
  }

  private static void like() {
    Sentence.ofTerms(3, "the PASSENGER of which TEMPER behind k MINUTES and places k that are numbers (k from 0 on) differ least (signs left out), together");
    for (int sort = 0; sort < 2; sort++) {
      for (int who = 0; who < 9; who++) {
        ArguedFerry x = new ArguedFerry();
        x.seed(31);
        x.deal(9);
        x.rule(1, 99);
        ArguedFerry twin = new ArguedFerry();
        twin.seed(31);
        twin.deal(9);
        twin.rule(1, 99);
        for (int one = 0; one < 9; one++) {
          x.set(one, 2, one);
          twin.set(one, 2, one);
        }
        x.sheet(2, sort, 24);
        for (int place = 0; place < 24; place++) {
          x.mark(2, place, twin.told(who, 2));
          twin.minutes(1);
        }
        Due.is("just as that", x.like(2, 0), who);
        Due.is("no differences", x.like(2, 1), 0);
        x.mark(2, 23, -1000);
        Due.is("but for the last place", x.like(2, 1), 1000 + x.behind(23, 5 + x.like(2, 0)));
      }
    }
    Sentence.of(23, "what 0 the PASSENGER, 1 the differences, together");
    ArguedFerry last = goats(9, 0);
    last.set(8, 2, 99);
    last.sheet(0, 0, 2);
    last.mark(0, 0, 90);
    last.mark(0, 1, 100);
    Due.is("the last of nine", last.like(0, 0), 8);
    Due.is("by 9 and by 1", last.like(0, 1), 10);
    Due.is("what 2", last.like(0, 2), BAD);
    Due.is("what -1", last.like(0, -1), BAD);
    Sentence.of(23, "NONE: there are no PASSENGERS");
    ArguedFerry nobody = new ArguedFerry();
    nobody.sheet(0, 0, 0);
    nobody.sheet(1, 1, 24);
    for (int what = 0; what < 2; what++) {
      Due.is("no places", nobody.like(0, what), NONE);
      Due.is("places", nobody.like(1, what), NONE);
      Due.is("missing", nobody.like(2, what), NOTHING);
    }
  }

  private static void likeAtItsEdges() {
    Sentence.ofTerms(3, "of several the least");
    ArguedFerry x = goats(9, 0);
    x.sheet(0, 0, 0);
    Due.is("no places", x.like(0, 0), 0);
    Due.is("no places", x.like(0, 1), 0);
    x.set(3, 2, 10);
    x.set(5, 2, 14);
    x.sheet(0, 0, 1);
    x.mark(0, 0, 12);
    Due.is("10 and 14 are as near to 12", x.like(0, 0), 3);
    Due.is("by 2", x.like(0, 1), 2);
    Sentence.ofTerms(3, "places k that are numbers");
    x.sheet(1, 1, 24);
    for (int place = 0; place < 24; place++) {
      x.mark(1, place, NONE);
    }
    Due.is("none are", x.like(1, 0), 0);
    Due.is("none are", x.like(1, 1), 0);
    x.mark(1, 23, 13);
    Due.is("the last is", x.like(1, 0), 5);
    Due.is("the last is", x.like(1, 1), 1);
    Sentence.ofTerms(3, "(signs left out)");
    for (int place = 0; place < 24; place++) {
      x.mark(1, place, place % 2 == 0 ? -99999 : 99999);
    }
    Due.is("as far as can be", x.like(1, 1), 24 * 99999);
    Due.is("all are as far", x.like(1, 0), 0);
    x.sheet(0, 0, 2);
    x.mark(0, 0, 32768);
    x.mark(0, 1, 32767);
    Due.is("shorts", x.like(0, 1), 32768 + 32767);
  }

  /** At minute 9999 no minute passes any more, but what would come can be thought. */
  private static void withoutTheBound() {
    Sentence.ofTerms(3, "without the bound of THE MINUTE");
    ArguedFerry x = new ArguedFerry();
    for (int i = 0; i < 100; i++) {
      x.minutes(100);
    }
    Due.is("the minute", x.count(1), 9999);
    x.minutes(1);
    for (int one = 0; one < 2; one++) {
      x.one(one == 0 ? PASSENGER : GOAT, 1);
      for (int matter = 0; matter < 6; matter++) {
        x.believes(one, matter, 3 - 6 * one);
      }
    }
    Due.is("the boat", x.boat(0), 1);
    x.rule(1, 99);
    x.sheet(0, 0, 4);
    x.mark(0, 2, 6);
    x.mark(0, 3, 11);
    Due.is("over", x.over(0, 1, 0), 4);
    Due.is("settles", x.settles(0, 1, 1), 4);
    Due.is("pairs", x.pairs(1), 1);
    Due.is("behind 5", x.behind(5, 0), 2);
    Due.is("temper behind 3", x.behind(3, 5), 11);
    Due.is("calm", x.calm(5, 1), 2);
    Due.is("becomes", x.becomes(0, 5, 1), 2);
    Due.is("like", x.like(0, 0), 0);
    Due.is("like", x.like(0, 1), 0);
    x.one(GOAT, 0);
    Due.is("one alone lands nowhere", x.lands(2), NONE);
    x.set(0, 1, 0);
    x.set(1, 1, 0);
    Due.is("lands: the boat comes, then 5 minutes", x.lands(0), 6);
    Due.text(x, "speech (n>9999)*50");
    x.rule(0, 0);
    Due.is("the minute as it is thought", x.over(0, 1, 0), 2);
    Due.is("no minute passes", x.minutes(100), 0);
    Due.is("the minute", x.count(1), 9999);
  }

  private static void fee() {
    Sentence.ofTerms(4, "without a TEXT: CROSSED");
    ArguedFerry x = goats(2, 0);
    Due.is("at first", x.fee(), 0);
    x.minutes(4);
    Due.is("crossed", x.fee(), 2);
    Sentence.of(24, "What fee gives");
    Due.text(x, "fee 0-c*1000-s");
    Due.is("by a text", x.fee(), -2000);
    for (int matter = 0; matter < 6; matter++) {
      x.believes(0, matter, -3);
    }
    x.minutes(2);
    Due.is("stranded", x.fee(), -2001);
    Due.text(x, "fee 9999*9999*9999");
    Due.is("what it gives is not held", x.fee(), (int) (999700029999L & 0xffffffffL));
  }

  private static void fine() {
    Sentence.ofTerms(4, "without a TEXT: TEMPER");
    ArguedFerry x = goats(2, 0);
    x.set(1, 2, 99);
    Due.is("cool", x.fine(0), 0);
    Due.is("hot", x.fine(1), 99);
    Sentence.of(25, "What fine gives for a PASSENGER");
    Due.text(x, "fine b*1000-t");
    x.set(1, 1, 1);
    Due.is("at bank 0", x.fine(0), 0);
    Due.is("at bank 1", x.fine(1), 901);
    x.set(1, 1, 0);
    x.minutes(1);
    Due.is("aboard", x.fine(0), 2000);
    Due.is("aboard", x.fine(1), 1901);
    Sentence.of(25, "BAD");
    Due.is("nobody", x.fine(2), BAD);
    Due.is("nobody", x.fine(-1), BAD);
  }
}
