/** The edges of promises 26 to 30, and of what the terms say of texts. */
final class TextsEdges {
  private static final int BAD = ArguedFerry.BAD, FULL = ArguedFerry.FULL, NONE = ArguedFerry.NONE;
  private static final String[] KEYS = {"speech", "fee", "fine"};
  private static final String[] NAMES = {"dtn", "cs", "tb"};
  private static final String SIGNS_BETWEEN = "|&<=>+-*/";

  private TextsEdges() {
  }

  static void askAll() {
    tape();
    usedUp();
    fourteenAtMost();
    keys();
    names();
    numbers();
    tests();
    pieces();
    anyByte();
    blanks();
    wordsBehindWords();
    nested();
    theEnd();
    again();
    looseness();
    intsWrap();
    truth();
    toldLast();
    numbersAndNames();
  }

  /** What a text answers at an object that has none: 0, or its FAULT. */
  private static void fault(String text, int place) {
    Due.is("'" + text + "'", Due.text(new ArguedFerry(), text), -100 - place);
  }

  private static void faultless(String text) {
    Due.is("'" + text + "'", Due.text(new ArguedFerry(), text), 0);
  }

  private static void gives(String expression, int due) {
    ArguedFerry x = new ArguedFerry();
    Due.is("'fee " + expression + "'", Due.text(x, "fee " + expression), 0);
    Due.is("'fee " + expression + "' gives", x.fee(), due);
  }

  private static void tape() {
    Sentence.of(26, "Twelve bytes come to THE TAPE, the highest of each number first: how many it has");
    ArguedFerry x = new ArguedFerry();
    Due.is("bytes", x.feed('f' << 24 | 'e' << 16 | 'e' << 8 | ' ', '1' << 24 | '2' << 16 | '+' << 8 | '3', '4' << 24 | '-' << 16 | '5' << 8 | '6'), 12);
    Due.is("a text", x.text(), 0);
    Due.is("fee", x.fee(), 12 + 34 - 56);
    ArguedFerry signs = new ArguedFerry();
    signs.feed('f' << 24 | 'e' << 16 | 'e' << 8 | ' ', 0xff31ff31, -1);
    Due.is("the highest bytes are above 127", signs.text(), -104);
    Sentence.of(26, "FULL: it would have more than 96");
    ArguedFerry full = new ArguedFerry();
    for (int i = 1; i <= 8; i++) {
      Due.is("bytes", full.feed(i, i, i), 12 * i);
    }
    Due.is("a ninth time", full.feed(0, 0, 0), FULL);
    for (int kept = 96; kept >= 80; kept--) {
      Due.is("trim", full.trim(kept), kept);
      int due = kept > 84 ? FULL : kept + 12;
      Due.is("behind " + kept, full.feed(0, 0, 0), due);
      Due.is("bytes", full.count(6), kept > 84 ? kept : kept + 12);
      full.trim(kept);
    }
    Sentence.of(27, "THE TAPE keeps its first n bytes: n");
    ArguedFerry kept = new ArguedFerry();
    Due.feed(kept, "fee 12345");
    Due.is("more than it has", kept.trim(10), BAD);
    Due.is("all", kept.trim(9), 9);
    Due.is("all but the last", kept.trim(8), 8);
    Due.is("it is gone", kept.trim(9), BAD);
    Due.is("below 0", kept.trim(-1), BAD);
    Due.is("a text", kept.text(), 0);
    Due.is("the first ones are kept", kept.fee(), 1234);
    Due.is("none of none", kept.trim(0), 0);
    Due.is("one of none", kept.trim(1), BAD);
    Sentence.ofTerms(4, "THE TAPE (96 bytes at most");
    String longest = "fee 1234+1234+1234+1234+1234+1234+1234+1234+1234+1234+1234+1234+1234+1234+1234+1234+1234+1234+1";
    Due.is("signs", longest.length(), 95);
    gives(longest.substring(4) + "9", 18 * 1234 + 19);
    fault(longest + "+", 96);
    fault(longest + "x", 95);
    fault(longest + ")", 95);
  }

  private static void usedUp() {
    Sentence.ofTerms(4, "an act that reads it uses it up, whatever it answers");
    ArguedFerry x = new ArguedFerry();
    Due.is("a text", Due.text(x, "fee 1"), 0);
    Due.is("bytes", x.count(6), 0);
    Due.is("nothing is left of it", Due.text(x, "fine 2"), 1);
    Due.is("a fault", Due.text(x, "fee 3 fine"), -106);
    Due.is("bytes", x.count(6), 0);
    Due.is("nothing is left of it", x.text(), -100);
    Due.is("a text", Due.text(x, "fine 3"), 2);
    Due.is("a fault at a word", Due.text(x, "fee 3+1 fine"), -108);
    Due.is("nothing is left of it", Due.text(x, "fee 8"), 3);
    Due.is("numbers and names", x.textTold(3, 1), 1);
    Due.is("fee", x.fee(), 8);
    for (int text = 4; text < 14; text++) {
      Due.text(x, "fee 4");
    }
    Due.is("full", Due.text(x, "fee 5"), FULL);
    Due.is("bytes", x.count(6), 0);
    Due.is("nothing is left of it", x.text(), -100);
  }

  private static void fourteenAtMost() {
    Sentence.of(28, "THE TAPE is a TEXT: its number");
    Sentence.ofTerms(4, "14 at most, numbered from 0");
    ArguedFerry x = new ArguedFerry();
    for (int text = 0; text < 14; text++) {
      Due.is("number", Due.text(x, KEYS[text % 3] + " " + text), text);
      Due.is("how many", x.count(4), text + 1);
    }
    Sentence.of(28, "FULL");
    for (int key = 0; key < 3; key++) {
      Due.is("a fifteenth", Due.text(x, KEYS[key] + " 99"), FULL);
    }
    Due.is("how many", x.count(4), 14);
    Due.is("the last of fee stays", x.fee(), 13);
    Due.is("why", x.why(1), 13);
    Due.is("why", x.why(0), 12);
    Due.is("why", x.why(2), 11);
    Due.is("it has no number", x.textTold(14, 0), BAD);
    Sentence.of(28, "-100 less the place of its FAULT; FULL");
    Due.is("a fault is told first", Due.text(x, "fee"), -103);
    Due.is("a fault is told first", Due.text(x, ""), -100);
    Due.is("how many", x.count(4), 14);
  }

  private static void keys() {
    Sentence.ofTerms(4, "KEY: speech | fee | fine");
    for (String key : KEYS) {
      faultless(key + " 1");
      for (int cut = 1; cut < key.length(); cut++) {
        fault(key.substring(0, cut) + " 1", 0);
        fault(key.substring(cut) + " 1", 0);
      }
      fault(key + "s 1", 0);
      fault("x" + key + " 1", 0);
      fault(key.toUpperCase(java.util.Locale.ROOT) + " 1", 0);
      fault(key + " " + key + " 1", key.length() + 1);
      fault("1 " + key, 0);
      fault("(" + key + " 1)", 0);
      for (int i = 0; i < key.length(); i++) {
        fault(key.substring(0, i) + "z" + key.substring(i + 1) + " 1", 0);
      }
    }
    fault("d", 0);
    fault("+", 0);
  }

  private static void names() {
    Sentence.ofTerms(4, "NAMES, each one letter: of speech d how far they are APART, t TEMPER, n THE MINUTE; of fee c CROSSED, s STRANDED");
    for (int key = 0; key < 3; key++) {
      String ahead = KEYS[key] + " ";
      for (char name = 'a'; name <= 'z'; name++) {
        if (NAMES[key].indexOf(name) >= 0) {
          faultless(ahead + name);
          faultless(ahead + "1+" + name);
        } else {
          fault(ahead + name, ahead.length());
          fault(ahead + "1+" + name, ahead.length() + 2);
        }
        for (char name2 = 'a'; name2 <= 'z'; name2++) {
          fault(ahead + name + name2, ahead.length());
        }
      }
      for (char name = 'A'; name <= 'Z'; name++) {
        fault(ahead + name, ahead.length());
      }
    }
    Sentence.ofTerms(4, "of fine t TEMPER, b BANK");
    ArguedFerry x = BoatTest.two(0, 3, 5, -1, 0);
    x.rule(1, 99);
    x.set(0, 2, 17);
    x.minutes(1);
    Due.text(x, "fine t");
    Due.is("temper", x.fine(0), 17);
    Due.text(x, "fine b");
    Due.is("bank", x.fine(0), 2);
    Sentence.ofTerms(4, "of speech d how far they are APART, t TEMPER, n THE MINUTE");
    Due.text(x, "speech d");
    Due.is("apart", x.argues(0, 1, 0, 1), 4);
    Due.text(x, "speech t");
    Due.is("temper", x.argues(0, 1, 0, 1), 17);
    Due.text(x, "speech n*9");
    Due.is("the minute", x.argues(0, 1, 0, 1), 9);
  }

  private static void numbers() {
    Sentence.ofTerms(4, "NUMBER (1 to 4 digits)");
    gives("0", 0);
    gives("9", 9);
    gives("10", 10);
    gives("999", 999);
    gives("9999", 9999);
    gives("0000", 0);
    gives("0001", 1);
    Sentence.ofTerms(4, "a NUMBER of more than 4 digits");
    fault("fee 10000", 4);
    fault("fee 00000", 4);
    fault("fee 00001", 4);
    fault("fee 1+ 12345", 7);
    fault("fee 12345678901234567890", 4);
    fault("fee (99999)", 5);
    fault("fee !99999", 5);
    faultless("fee 1234+5678");
    fault("fee 1234 5678", 9);
  }

  private static void tests() {
    Sentence.ofTerms(4, "TEST: SUM [ (< | = | >) SUM ]");
    for (char sign : "<=>".toCharArray()) {
      faultless("fee 1" + sign + "2");
      fault("fee 1" + sign, 6);
      fault("fee " + sign + "1", 4);
      for (char sign2 : "<=>".toCharArray()) {
        fault("fee 1" + sign + "2" + sign2 + "3", 7);
        fault("fee 1" + sign + sign2 + "3", 6);
        fault("fee (1" + sign + "2" + sign2 + "3)", 8);
        fault("fee 1" + sign + "2+3*4" + sign2 + "3", 11);
        faultless("fee (1" + sign + "2)" + sign2 + "3");
        faultless("fee 1" + sign + "(2" + sign2 + "3)");
        faultless("fee 1" + sign + "2&1" + sign2 + "3");
        faultless("fee 1" + sign + "2|1" + sign2 + "3");
      }
    }
  }

  private static void pieces() {
    Sentence.ofTerms(4, "PIECE: NUMBER (1 to 4 digits) | NAME | ! PIECE | ( E )");
    for (char sign : SIGNS_BETWEEN.toCharArray()) {
      fault("fee " + sign, 4);
      fault("fee " + sign + "1", 4);
      fault("fee (" + sign + "1)", 5);
      fault("fee 1" + sign, 6);
      fault("fee (1" + sign + ")", 7);
      fault("fee !" + sign + "1", 5);
      for (char sign2 : SIGNS_BETWEEN.toCharArray()) {
        fault("fee 1" + sign + sign2 + "1", 6);
      }
      faultless("fee 1" + sign + "!1");
      faultless("fee 1" + sign + "(1)");
    }
    fault("fee ()", 5);
    fault("fee )", 4);
    fault("fee 1)", 5);
    fault("fee (1))", 7);
    fault("fee (1)(1)", 7);
    fault("fee 1(1)", 5);
    fault("fee (1)1", 7);
    fault("fee (1)!1", 7);
    fault("fee 1!", 5);
    fault("fee 1!1", 5);
    faultless("fee (((1)))");
    faultless("fee !(!1)");
    faultless("fee(1)");
    faultless("fee!1");
  }

  /** What each byte is, behind a number, ahead of the key, and where a piece is due. */
  private static void anyByte() {
    Sentence.ofTerms(4, "any other byte is a sign by itself");
    for (int b = 0; b < 256; b++) {
      char sign = (char) b;
      boolean digit = b >= '0' && b <= '9', letter = b >= 'a' && b <= 'z', blank = b == ' ';
      if (digit || SIGNS_BETWEEN.indexOf(sign) >= 0) {
        faultless("fee 1" + sign + "1");
      } else {
        fault("fee 1" + sign + "1", blank ? 6 : 5);
      }
      if (blank) {
        faultless(sign + "fee 1");
        faultless("fee 1" + sign);
      } else {
        fault(sign + "fee 1", 0);
        if (digit) {
          faultless("fee 1" + sign);
        } else {
          fault("fee 1" + sign, SIGNS_BETWEEN.indexOf(sign) >= 0 ? 6 : 5);
        }
      }
      if (digit || sign == 'c' || sign == 's') {
        faultless("fee " + sign);
      } else {
        fault("fee " + sign, blank || sign == '!' || sign == '(' ? 5 : 4);
      }
      if (!letter && !digit && !blank && sign != '(' && sign != '!') {
        fault("fee" + sign + "1", 3);
      }
    }
  }

  private static void blanks() {
    Sentence.ofTerms(4, "Between words and signs, and at the ends, there may be blanks (byte 32)");
    faultless(" fee 1");
    faultless("fee 1 ");
    faultless("   fee   1   ");
    faultless("fee 1 + 2 * ( c - s ) < ! 3 & 4 | 5 ");
    faultless("fee !   !  1");
    faultless(" ".repeat(91) + "fee 1");
    faultless("fee " + " ".repeat(91) + "1");
    faultless("fee 1" + " ".repeat(91));
    fault(" ".repeat(92) + "fee", 95);
    fault("fe e 1", 0);
    fault("fee 1 2", 6);
    fault("fee c s", 6);
    fault("fee\n1", 3);
    fault("fee 1\n", 5);
    fault("\tfee 1", 0);
  }

  private static void wordsBehindWords() {
    Sentence.ofTerms(4, "a word right behind another one needs one");
    fault("fee1", 3);
    faultless("fee 1");
    fault("speech1", 6);
    fault("fine1234", 4);
    fault("fee12345", 3);
    fault("fee 1c", 5);
    fault("fee c1", 5);
    fault("fee 1c+", 5);
    fault("fee 1 c", 6);
    fault("fee c+1s", 7);
    faultless("fee c+1-s*1");
    Sentence.ofTerms(4, "a word that needs a blank ahead of it");
    fault("fee 1+c2", 7);
    fault("fee (c2)", 6);
    fault("fee !c2", 6);
    fault("fee 12c 3", 6);
    Sentence.ofTerms(4, "A word is a row of letters a .. z, or of digits, as long as it goes");
    fault("feefee 1", 0);
    fault("feec", 0);
    fault("fee cs", 4);
    fault("fee 1cs", 5);
  }

  private static void nested() {
    Sentence.ofTerms(4, "the ninth ( that would be open within others");
    for (int open = 1; open <= 20; open++) {
      String text = "fee " + "(".repeat(open) + "c" + ")".repeat(open);
      if (open <= 8) {
        faultless(text);
      } else {
        fault(text, 4 + 8);
      }
    }
    faultless("fee " + "(c)+".repeat(20) + "(c)");
    faultless("fee ((((((((c))))))))*((((((((s))))))))");
    faultless("fee (((((((c+(1))))))))-(((((((c+(1))))))))");
    fault("fee (((((((c+((1)))))))))", 14);
    fault("fee ((((((((c)+(((1", 16);
    Sentence.ofTerms(4, "the ninth ! likewise");
    for (int open = 1; open <= 20; open++) {
      String text = "fee " + "!".repeat(open) + "c";
      if (open <= 8) {
        faultless(text);
      } else {
        fault(text, 4 + 8);
      }
    }
    faultless("fee " + "!c+".repeat(20) + "!c");
    faultless("fee !!!!!!!!c&!!!!!!!!s");
    fault("fee !!!!!!!!c&!!!!!!!!!s", 22);
    faultless("fee !!!!(!!!!c)");
    fault("fee !!!!(!!!!!c)", 13);
    faultless("fee !!!!(!!!!c+!!!!s)+!!!!!!!!1");
    Sentence.ofTerms(4, "each by itself");
    faultless("fee ((((((((!!!!!!!!c))))))))");
    faultless("fee !!!!!!!!((((((((c))))))))");
    faultless("fee !(!(!(!(!(!(!(!(c))))))))");
    fault("fee ((((((((!!!!!!!!!c))))))))", 20);
    fault("fee !!!!!!!!(((((((((c)))))))))", 20);
    fault("fee !(!(!(!(!(!(!(!(!c))))))))", 20);
    fault("fee !(!(!(!(!(!(!(!((c)))))))))", 20);
  }

  private static void theEnd() {
    Sentence.ofTerms(4, "the end (the place behind the last byte), if it comes too soon");
    String text = " fine !(t+12) * b<2&3 | 4 ";
    for (int length = 0; length <= text.length(); length++) {
      String cut = text.substring(0, length);
      if (length > 1 && length < 5) {
        fault(cut, 1);
      } else if (enoughAt(cut)) {
        faultless(cut);
      } else {
        fault(cut, length);
      }
    }
    fault("", 0);
    fault(" ", 1);
    fault(" ".repeat(96), 96);
    fault("fee", 3);
    fault("fee   ", 6);
    fault("fee 1+   ", 9);
    fault("fee (1   ", 9);
    Sentence.ofTerms(4, "the first byte of the first word or sign with which no TEXT goes on");
    fault("fee 1+)(", 6);
    fault("fee $$", 4);
    fault("fee xyz $", 4);
    fault("fee 1 + $", 8);
    fault("$", 0);
    fault("fee 1<2<3<4", 7);
  }

  /** Whether what is cut from the text of theEnd is a TEXT: behind a piece outside of brackets. */
  private static boolean enoughAt(String cut) {
    String bare = cut.trim();
    return bare.length() > 5 && bare.indexOf(')') > 0 && "+-*/<&|!(".indexOf(bare.charAt(bare.length() - 1)) < 0;
  }

  private static void again() {
    Sentence.ofTerms(4, "OR: AND { | AND }; AND: TEST { & TEST }");
    gives("1|".repeat(45) + "0", 1);
    gives("0|".repeat(45) + "0", 0);
    gives("7&".repeat(45) + "7", 1);
    gives("7&".repeat(45) + "0", 0);
    gives("0", 0);
    Sentence.ofTerms(4, "SUM: TERM { (+ | -) TERM }; TERM: PIECE { (* | /) PIECE }");
    gives("1+".repeat(45) + "1", 46);
    gives("1-".repeat(45) + "1", -44);
    gives("1*".repeat(45) + "5", 5);
    gives("2*".repeat(31) + "1", Integer.MIN_VALUE);
    gives("2*".repeat(32) + "1", 0);
    gives("9999/" + "2/".repeat(13) + "1", 1);
    gives("9999/" + "2/".repeat(14) + "1", 0);
    gives("5", 5);
  }

  private static void looseness() {
    Sentence.ofTerms(4, "E, the loosest first");
    gives("1|0&0", 1);
    gives("0&0|1", 1);
    gives("2&1=2", 0);
    gives("1=2&2", 0);
    gives("1+2=3", 1);
    gives("3=1+2", 1);
    gives("2*3+4*5", 26);
    gives("20-6/2", 17);
    gives("9-5-3", 1);
    gives("9-5+3", 7);
    gives("80/8/2", 5);
    gives("80/8*2", 20);
    gives("8*3/2", 12);
    gives("!0+5", 6);
    gives("!(0+5)", 0);
    gives("!0*7", 7);
    gives("!1=0", 1);
    gives("(1|1)&0", 0);
    gives("2*(3+4)", 14);
    gives("9-(5-3)", 7);
    gives("1<2|1>2&0", 1);
  }

  private static void intsWrap() {
    Sentence.ofTerms(4, "Ints wrap");
    String most = "(2147*1000*1000+483*1000+647)";
    gives(most, Integer.MAX_VALUE);
    gives(most + "+1", Integer.MIN_VALUE);
    gives("0-" + most + "-1", Integer.MIN_VALUE);
    gives("0-" + most + "-2", Integer.MAX_VALUE);
    gives(most + "*2", -2);
    gives(most + "*" + most, 1);
    gives(most + "+1<0", 1);
    gives("(" + most + "+1)/(0-1)", Integer.MIN_VALUE);
    gives("(" + most + "+1)*(0-1)", Integer.MIN_VALUE);
    Sentence.ofTerms(4, "/ is 0 by 0");
    gives("1/0", 0);
    gives("0/0", 0);
    gives("9999/(1-1)", 0);
    gives("(0-1)/c", 0);
    gives("5+7/0*3", 5);
    gives("0|1/0", 0);
    Sentence.ofTerms(0, "/ cuts towards 0");
    gives("7/2", 3);
    gives("(0-7)/2", -3);
    gives("7/(0-2)", -3);
    gives("(0-7)/(0-2)", 3);
    gives("(0-1)/2", 0);
    gives("1/2", 0);
  }

  private static void truth() {
    Sentence.ofTerms(4, "tests, & | ! give 1 or 0 (what is not 0 is true; both sides are worked out)");
    String[] left = {"0", "1", "5", "(0-3)"};
    for (String a : left) {
      boolean isTrue = !a.equals("0");
      gives("!" + a, isTrue ? 0 : 1);
      gives("!!" + a, isTrue ? 1 : 0);
      for (String b : left) {
        gives(a + "&" + b, isTrue && !b.equals("0") ? 1 : 0);
        gives(a + "|" + b, isTrue || !b.equals("0") ? 1 : 0);
      }
    }
    gives("2<3", 1);
    gives("3<3", 0);
    gives("4<3", 0);
    gives("2=3", 0);
    gives("3=3", 1);
    gives("4=3", 0);
    gives("2>3", 0);
    gives("3>3", 0);
    gives("4>3", 1);
    gives("(0-1)<0", 1);
    gives("0>(0-1)", 1);
    gives("0&1/0", 0);
    gives("1|1/0", 1);
    gives("7&7&7", 1);
    gives("0|0|9", 1);
  }

  private static void toldLast() {
    Sentence.ofTerms(4, "Of a KEY that TEXT counts that was told last");
    Sentence.of(30, "The TEXT that counts for a KEY");
    ArguedFerry x = BoatTest.two(0, 3, 5, -3, 0);
    for (int text = 0; text < 12; text++) {
      int key = text % 3;
      Due.text(x, KEYS[key] + " " + (10 + text));
      Due.is("why", x.why(key), text);
      int given = key == 0 ? x.argues(0, 1, 0, 1) : key == 1 ? x.fee() : x.fine(0);
      Due.is("what it gives", given, 10 + text);
    }
    Due.is("speech stays", x.argues(0, 1, 0, 1), 19);
    Due.is("fee stays", x.fee(), 20);
    Due.is("fine stays", x.fine(0), 21);
    Due.is("a fault changes none", Due.text(x, "fee 7+"), -106);
    Due.is("fee stays", x.fee(), 20);
    Due.is("why", x.why(1), 10);
    Sentence.of(30, "NONE");
    ArguedFerry none = new ArguedFerry();
    for (int key = 0; key < 3; key++) {
      Due.is("none is told", none.why(key), NONE);
    }
    Due.text(none, "fine 0");
    Due.is("none of speech", none.why(0), NONE);
    Due.is("none of fee", none.why(1), NONE);
    Due.is("one of fine", none.why(2), 0);
    Sentence.of(30, "BAD");
    Due.is("key 3", none.why(3), BAD);
    Due.is("key -1", none.why(-1), BAD);
  }

  private static void numbersAndNames() {
    Sentence.of(29, "what 0 KEY (0 speech, 1 fee, 2 fine), 1 how many NUMBERS and NAMES it has");
    String[] texts = {"fee 1", "fee c", "fee !!!c", "fee ((1234))", "fee c+c*c-1", "speech d&t|n<1", "fine t+b+0"};
    int[] many = {1, 1, 1, 1, 4, 4, 3};
    int[] keys = {1, 1, 1, 1, 1, 0, 2};
    ArguedFerry x = new ArguedFerry();
    for (int text = 0; text < texts.length; text++) {
      Due.is(texts[text], Due.text(x, texts[text]), text);
    }
    for (int text = 0; text < texts.length; text++) {
      Due.is(texts[text], x.textTold(text, 1), many[text]);
      Due.is(texts[text], x.textTold(text, 0), keys[text]);
    }
    Due.is("as many as there can be", Due.text(x, "fee " + "1+".repeat(45) + "1 "), texts.length);
    Due.is("as many as there can be", x.textTold(texts.length, 1), 46);
    Due.is("what they give", x.fee(), 46);
    Sentence.of(29, "BAD");
    Due.is("what 2", x.textTold(0, 2), BAD);
    Due.is("what -1", x.textTold(0, -1), BAD);
    Due.is("ahead of the first", x.textTold(-1, 0), BAD);
    Due.is("behind the last", x.textTold(texts.length + 1, 0), BAD);
    Due.is("none at all", new ArguedFerry().textTold(0, 0), BAD);
  }
}
