/** Promises 26 to 30 (feed, trim, text, textTold, why), and what texts give. */
public final class TextsTest {
  private static final int BAD = ArguedFerry.BAD, FULL = ArguedFerry.FULL, NONE = ArguedFerry.NONE;
  private static final int[] WRONG = {-1, Integer.MIN_VALUE, Integer.MAX_VALUE};

  private static void feedAndTrim() {
    ArguedFerry x = new ArguedFerry();
    for (int i = 1; i <= 8; i++) {
      Due.is("feed", x.feed(0, -1, i), 12 * i);
    }
    Due.is("feed", x.feed(0, 0, 0), FULL);
    Due.is("it stays", x.count(6), 96);
    Due.is("trim 97", x.trim(97), BAD);
    for (int wrong : WRONG) {
      Due.is("trim", x.trim(wrong), BAD);
    }
    Due.is("trim 96", x.trim(96), 96);
    Due.is("trim 85", x.trim(85), 85);
    Due.is("feed", x.feed(0, 0, 0), FULL);
    Due.is("trim 86", x.trim(86), BAD);
    Due.is("trim 84", x.trim(84), 84);
    Due.is("feed", x.feed(0, 0, 0), 96);
    Due.is("trim 0", x.trim(0), 0);
    Due.is("count", x.count(6), 0);
    // the highest byte of each first: fee 1234567 would be wrong, fee 12+34+56 is right
    Due.is("feed", x.feed(0x66656520, 0x31322b33, 0x342b3536), 12);
    Due.is("text", x.text(), 0);
    Due.is("fee", x.fee(), 102);
  }

  private static void fault(String text, int place) {
    ArguedFerry x = new ArguedFerry();
    Due.is("'" + text + "'", Due.text(x, text), place < 0 ? 0 : -100 - place);
    Due.is("texts behind '" + text + "'", x.count(4), place < 0 ? 1 : 0);
    Due.is("tape behind '" + text + "'", x.count(6), 0);
  }

  private static void faults() {
    fault("", 0);
    fault("   ", 3);
    fault("fee", 3);
    fault("fee  ", 5);
    fault("fee c", -1);
    fault("  fee   c  ", -1);
    fault("fee(c)", -1);
    fault("fee!c", -1);
    fault("fee\tc", 3);
    fault("fee5", 3);
    fault("fee 5", -1);
    fault("feec", 0);
    fault(" feec", 1);
    fault("fe c", 0);
    fault("xee c", 0);
    fault("fxe c", 0);
    fault("fex c", 0);
    fault("Fee c", 0);
    fault("5 c", 0);
    fault("speech d+t*n", -1);
    fault("speech c", 7);
    fault("speech b", 7);
    fault("fee d", 4);
    fault("fee t", 4);
    fault("fine t-b", -1);
    fault("fine c", 5);
    fault("fine n", 5);
    fault("fee cs", 4);
    fault("fee ca", 4);
    fault("fee cz", 4);
    fault("fee c`", 5);
    fault("fee c{", 5);
    fault("fee 1/", 6);
    fault("fee 1:", 5);
    fault("fee 10/90", -1);
    fault("fee c s", 6);
    fault("fee c5", 5);
    fault("fee 5c", 5);
    fault("fee 9999", -1);
    fault("fee 0000", -1);
    fault("fee 12345", 4);
    fault("fee c+00000", 6);
    fault("fee 12 34", 7);
    fault("fee c+", 6);
    fault("fee c+ ", 7);
    fault("fee +c", 4);
    fault("fee c++c", 6);
    fault("fee -1", 4);
    fault("fee c!", 5);
    fault("fee !", 5);
    fault("fee !!!c", -1);
    fault("fee (c", 6);
    fault("fee c)", 5);
    fault("fee ()", 5);
    fault("fee ((c)", 8);
    fault("fee 1<2", -1);
    fault("fee 1<2<3", 7);
    fault("fee 1<2=3", 7);
    fault("fee (1<2)=3", -1);
    fault("fee 1<2&3>4|5=6", -1);
    fault("fee 1<!2<3", 8);
    fault("fee 1&&2", 6);
    fault("fee c$", 5);
    fault("fee c\u00e9", 5);
    fault("fee c\u0000", 5);
    fault("\u00fffee c", 0);
    fault("fee fee c", 4);
  }

  private static void nested() {
    fault("fee ((((((((c))))))))", -1);
    fault("fee (((((((((c)))))))))", 12);
    fault("fee ((((((((c))))))))+((((((((s))))))))", -1);
    fault("fee ((((((((c))))))))+(((((((((s)))))))))", 30);
    fault("fee !!!!!!!!c", -1);
    fault("fee !!!!!!!!!c", 12);
    fault("fee !!!!!!!!c+!!!!!!!!s", -1);
    fault("fee !!!!!!!!(c)", -1);
    fault("fee !!!!!!!!(!c)", 13);
    fault("fee !!!!!!!(!c+!s)", -1);
    fault("fee !(!(!(!(!(!(!(!(c))))))))", -1);
    fault("fee !(!(!(!(!(!(!(!(!c))))))))", 20);
    fault("fee !(!(!(!(!(!(!(!((c)))))))))", 20);
    fault("fee (!c)+!!!!!!!!s", -1);
  }

  private static void gives(String expression, int due) {
    ArguedFerry x = new ArguedFerry();
    Due.is("'" + expression + "'", Due.text(x, "fee " + expression), 0);
    Due.is("'" + expression + "'", x.fee(), due);
  }

  private static void values() {
    gives("1+2*3", 7);
    gives("(1+2)*3", 9);
    gives("10-4-3", 3);
    gives("100/5/2", 10);
    gives("7/2*2", 6);
    gives("(0-7)/2", -3);
    gives("5/0", 0);
    gives("0/0", 0);
    gives("1<2", 1);
    gives("2<1", 0);
    gives("2<2", 0);
    gives("2=2", 1);
    gives("2=3", 0);
    gives("3>2", 1);
    gives("2>2", 0);
    gives("1+1=2", 1);
    gives("!0", 1);
    gives("!5", 0);
    gives("!!5", 1);
    gives("!0+1", 2);
    gives("!0*3", 3);
    gives("2&3", 1);
    gives("2&0", 0);
    gives("2|0", 1);
    gives("0|0", 0);
    gives("1|0&0", 1);
    gives("(1|0)&0", 0);
    gives("0=0&5>4", 1);
    gives("0007", 7);
    gives("9999*9999*9999", 9999 * 9999 * 9999);
    gives("(0-2147*1000*1000-483*1000-648)/(0-1)", Integer.MIN_VALUE);
    gives("(c>0)*5+(c=0)*9", 9);
    gives("5/(2-2)+1", 1);
    gives("1+1+1+1+1+1+1+1+1+1+1+1+1+1+1+1+1+1+1+1+1+1+1+1+1+1+1+1+1+1+1+1+1+1+1+1+1+1+1+1+1+1+1+1+1+1", 46);
  }

  private static void speech() {
    ArguedFerry x = new ArguedFerry();
    x.one(1, 0);
    x.one(0, 0);
    x.believes(0, 0, 3);
    x.set(0, 2, 40);
    x.set(1, 2, 7);
    Due.text(x, "speech d*10+t");
    Due.is("married", x.argues(0, 1, 0, 1), 72);
    Due.is("passenger", x.argues(1, 0, 0, 1), 37);
    Due.is("not apart", x.argues(0, 1, 1, 1), 40);
    Due.text(x, "speech t*t");
    Due.is("held within 99", x.argues(0, 1, 0, 1), 101);
    Due.is("49", x.argues(1, 0, 0, 1), 49);
    Due.text(x, "speech 0-t");
    Due.is("held within 0", x.argues(0, 1, 0, 1), 2);
    x.turns(0, 3);
    Due.is("twice", x.argues(0, 1, 0, 1), 4);
    x.turns(0, 2);
    Due.is("hired", x.argues(0, 1, 0, 1), 3);
    x.turns(0, 4);
    Due.text(x, "speech 99");
    Due.is("silent", x.argues(0, 1, 0, 1), 0);
    x.turns(0, 5);
    Due.is("goat", x.argues(0, 1, 0, 1), 99);
    x.rule(1, 99);
    for (int matter = 0; matter < 6; matter++) {
      x.believes(0, matter, 3);
    }
    Due.text(x, "speech n");
    x.minutes(3);
    Due.is("the minute", x.argues(0, 1, 0, 1), 3);
    Due.is("minutes 1 and 2 are spoken", x.boat(1), 1 + 1 + 1 - 1 + 2 + 2 - 1);
    // what is spoken is by tempers ahead of the heat of that minute
    ArguedFerry y = BoatTest.two(0, 3, 0, -3, 0);
    Due.text(y, "speech t");
    y.rule(0, 0);
    y.minutes(2);
    Due.is("cool ones say nothing", y.boat(1), 1);
    y.minutes(1);
    Due.is("then 6 and 6", y.boat(1), 13);
  }

  private static void textTold() {
    ArguedFerry x = new ArguedFerry();
    Due.is("none", x.textTold(0, 0), BAD);
    Due.is("text", Due.text(x, "fine t+b*(3-!4)"), 0);
    Due.is("text", Due.text(x, "speech d"), 1);
    Due.is("text", Due.text(x, "fee 12"), 2);
    Due.is("text", Due.text(x, "fine b"), 3);
    int[] keys = {2, 0, 1, 2};
    int[] many = {4, 1, 1, 1};
    for (int text = 0; text < 4; text++) {
      Due.is("key", x.textTold(text, 0), keys[text]);
      Due.is("numbers and names", x.textTold(text, 1), many[text]);
    }
    Due.is("why", x.why(0), 1);
    Due.is("why", x.why(1), 2);
    Due.is("why", x.why(2), 3);
    Due.is("text", x.textTold(4, 0), BAD);
    Due.is("what", x.textTold(0, 2), BAD);
    Due.is("key", x.why(3), BAD);
    for (int wrong : WRONG) {
      Due.is("text", x.textTold(wrong, 0), BAD);
      Due.is("what", x.textTold(0, wrong), BAD);
      Due.is("key", x.why(wrong), BAD);
    }
    Due.is("none", new ArguedFerry().why(1), NONE);
  }

  private static void fullAndBack() {
    ArguedFerry x = new ArguedFerry();
    Due.text(x, "fee 1000");
    x.keep();
    for (int text = 1; text < 14; text++) {
      Due.is("text", Due.text(x, "fee " + text), text);
    }
    Due.is("a fifteenth", Due.text(x, "fee 77"), FULL);
    Due.is("the tape is used up", x.count(6), 0);
    Due.is("a fault, ahead of full", Due.text(x, "fee 77+"), -107);
    Due.is("the fourteenth counts", x.fee(), 13);
    Due.is("texts", x.count(4), 14);
    x.one(0, 0);
    Due.is("back", x.back(), 0);
    Due.is("texts", x.count(4), 1);
    Due.is("the first counts", x.fee(), 1000);
    Due.is("why", x.why(1), 0);
    Due.is("gone", x.textTold(1, 0), BAD);
    Due.is("another second", Due.text(x, "fine 2222"), 1);
    Due.is("another second", x.textTold(1, 0), 2);
    Due.is("the first counts", x.fee(), 1000);
    Due.is("a fault", Due.text(x, "speech d*"), -109);
    Due.is("a fault at a word", Due.text(x, "fine 1+2+x"), -109);
    Due.is("behind one", Due.text(x, "fine 5"), 2);
    Due.is("nothing of what had faults", x.textTold(2, 1), 1);
    Due.is("nothing of what had faults", x.textTold(2, 0), 2);
    x.back();
    Due.is("none again", x.why(2), NONE);
    Due.is("the first counts", x.fee(), 1000);
  }

  public static void main(String[] args) {
    feedAndTrim();
    faults();
    nested();
    values();
    speech();
    textTold();
    fullAndBack();
    Due.end();
  }
}
