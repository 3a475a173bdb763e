/** Compares answers with those that are due, and counts those that differ. */
final class Due {
  private static int asked = 0;
  private static int wrong = 0;
  private static String about = "";

  private Due() {
  }

  /** What is said ahead of each answer that differs, from now on. */
  static void about(String what) {
    about = what;
  }

  static int asked() {
    return asked;
  }

  static void is(String call, int got, int want) {
    asked++;
    if (got != want) {
      wrong++;
      System.out.println(about + call + " answered " + got + ", due is " + want);
    }
  }

  static void that(String what, boolean holds) {
    asked++;
    if (!holds) {
      wrong++;
      System.out.println(about + "not so: " + what);
    }
  }

  /** Feeds a text to the tape and trims it to its length; what is fed beyond it are blanks. */
  static void feed(ArguedFerry x, String text) {
    int already = x.count(6);
    for (int from = 0; from < text.length(); from += 12) {
      x.feed(four(text, from), four(text, from + 4), four(text, from + 8));
    }
    is("trim behind " + text, x.trim(already + text.length()), already + text.length());
  }

  /** Tells a text: what text() answers. */
  static int text(ArguedFerry x, String text) {
    feed(x, text);
    return x.text();
  }

  private static int four(String text, int from) {
    int four = 0;
    for (int i = from; i < from + 4; i++) {
      four = four << 8 | (i < text.length() ? text.charAt(i) & 255 : 32);
    }
    return four;
  }

  static void end() {
    System.out.println(asked + " asked, " + wrong + " wrong");
    if (wrong != 0) {
      System.exit(1);
    }
  }
}
