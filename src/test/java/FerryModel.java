import java.util.ArrayDeque;
import java.util.ArrayList;
import java.util.Deque;
import java.util.List;

/**
 * The document once more, written apart from ArguedFerry and in another way (lists, copies, kinds by tables, texts
 * split anew each time they are worked out), slow and plain. ModelTest compares the two.
 */
final class FerryModel {
  static final int BAD = -1000000001, NO = -1000000002, FULL = -1000000003, NONE = -1000000005;
  static final int NOTHING = -1000000011, KIND = -1000000012, INDEX = -1000000013, SIZE = -1000000014;
  private static final int[] ABOVE = {-1, 0, 0, 1, 2, 0};
  private static final String[] KEYS = {"speech", "fee", "fine"};
  private static final String[] NAMES = {"dtn", "cs", "tb"};

  private static final class Rider {
    int kind, bank, temper;
    int[] views = new int[6];

    Rider copied() {
      Rider r = new Rider();
      r.kind = kind;
      r.bank = bank;
      r.temper = temper;
      r.views = views.clone();
      return r;
    }
  }

  private record Token(String word, int start, boolean glued) {
    boolean isDigits() {
      return word.charAt(0) >= '0' && word.charAt(0) <= '9';
    }

    boolean isLetters() {
      return word.charAt(0) >= 'a' && word.charAt(0) <= 'z';
    }
  }

  private record Law(int key, List<Token> body) {
    int worth(int... values) {
      return FerryModel.worth(body, 0, NAMES[key], values);
    }
  }

  private static final class State {
    List<Rider> riders = new ArrayList<>();
    List<Law> laws = new ArrayList<>();
    int bank = 0, way = 0, a = -1, b = -1, matter = -1, wind = 1, limit = 40;
    int crossed, stranded, capsized, idle, minute, z = 1;

    State copied() {
      State s = new State();
      for (Rider r : riders) {
        s.riders.add(r.copied());
      }
      s.laws.addAll(laws);
      s.bank = bank;
      s.way = way;
      s.a = a;
      s.b = b;
      s.matter = matter;
      s.wind = wind;
      s.limit = limit;
      s.crossed = crossed;
      s.stranded = stranded;
      s.capsized = capsized;
      s.idle = idle;
      s.minute = minute;
      s.z = z;
      return s;
    }

    int draw() {
      z = z * 1103515245 + 12345;
      return z >>> 8;
    }

    Law law(int key) {
      Law found = null;
      for (Law law : laws) {
        if (law.key == key) {
          found = law;
        }
      }
      return found;
    }

    int plain(int apart, int temper) {
      Law law = law(0);
      int v = law == null ? apart : law.worth(apart, temper, minute);
      return v < 0 ? 0 : v > 99 ? 99 : v;
    }

    int speaks(Rider r, int apart) {
      int plain = plain(apart, r.temper);
      int married = plain + (apart != 0 ? 2 : 0);
      return new int[] {plain, married, plain + 3, 2 * married, 0, plain}[r.kind];
    }

    void aMinute() {
      if (way == 0) {
        List<Integer> here = new ArrayList<>();
        for (int i = 0; i < riders.size(); i++) {
          if (riders.get(i).bank == bank) {
            here.add(i);
          }
        }
        if (here.size() >= 2) {
          a = here.get(0);
          b = here.get(1);
          riders.get(a).bank = 2;
          riders.get(b).bank = 2;
          way = 1;
          matter = draw() % 6;
        } else {
          idle++;
          bank = bank == 0 ? 1 : 0;
        }
      } else {
        Rider p = riders.get(a), q = riders.get(b);
        int apart = Math.abs(p.views[matter] - q.views[matter]);
        int speech = speaks(p, apart) + speaks(q, apart);
        way = apart == 0 ? way - 1 - wind : way + speech - wind;
        p.temper = Math.min(99, p.temper + heats(p.kind, apart));
        q.temper = Math.min(99, q.temper + heats(q.kind, apart));
        if (p.temper + q.temper >= limit) {
          capsized++;
          p.temper = 0;
          q.temper = 0;
          out(bank);
        } else if (way >= 30) {
          crossed += 2;
          out(1 - bank);
        } else if (way <= 0) {
          stranded++;
          out(bank);
        } else {
          int v = p.views[matter], w = q.views[matter];
          p.views[matter] = shifts(p.kind, v, w);
          q.views[matter] = shifts(q.kind, w, v);
          if (p.views[matter] == q.views[matter]) {
            matter = draw() % 6;
          }
        }
      }
      minute++;
    }

    void out(int at) {
      riders.get(a).bank = at;
      riders.get(b).bank = at;
      bank = at;
      way = 0;
    }

    int those() {
      int set = 0;
      for (int i = 0; i < riders.size(); i++) {
        set += riders.get(i).bank == 1 ? 1 << i : 0;
      }
      return set;
    }

    int heat() {
      return riders.stream().mapToInt(r -> r.temper).sum();
    }
  }

  private static int heats(int kind, int apart) {
    return new int[] {apart, 2 * apart, apart / 2, Math.max(0, 2 * apart - 1), apart / 2, 0}[kind];
  }

  private static int shifts(int kind, int own, int other) {
    switch (kind) {
      case 0:
      case 1:
        return own + Integer.signum(other - own);
      case 3:
        return other;
      case 2:
        if (own == other) {
          return own == 3 ? -3 : own + 1;
        }
        return Math.max(-3, Math.min(3, own - Integer.signum(other - own)));
      default:
        return own;
    }
  }

  private static int worthOf(int kind, int t) {
    return new int[] {t, t + 4, 120 - t, 2 * (t + 4), 114 - t, 3}[kind];
  }

  private static boolean isOf(int kind, int wanted) {
    for (int k = kind; k >= 0; k = ABOVE[k]) {
      if (k == wanted) {
        return true;
      }
    }
    return false;
  }

  // texts: worked out by splitting at the loosest sign, the last one of it first

  private static int worth(List<Token> body, int level, String names, int[] values) {
    String[] levels = {"|", "&", "<=>", "+-", "*/"};
    if (level < levels.length) {
      int depth = 0;
      for (int i = body.size() - 1; i > 0; i--) {
        String w = body.get(i).word;
        depth += w.equals(")") ? 1 : w.equals("(") ? -1 : 0;
        if (depth == 0 && levels[level].contains(w)) {
          int left = worth(body.subList(0, i), level, names, values);
          return apply(w.charAt(0), left, worth(body.subList(i + 1, body.size()), level + 1, names, values));
        }
      }
      return worth(body, level + 1, names, values);
    }
    Token first = body.get(0);
    if (first.word.equals("!")) {
      return worth(body.subList(1, body.size()), level, names, values) == 0 ? 1 : 0;
    }
    if (first.word.equals("(")) {
      return worth(body.subList(1, body.size() - 1), 0, names, values);
    }
    return first.isDigits() ? Integer.parseInt(first.word) : values[names.indexOf(first.word)];
  }

  private static int apply(char sign, int l, int r) {
    return switch (sign) {
      case '|' -> l != 0 || r != 0 ? 1 : 0;
      case '&' -> l != 0 && r != 0 ? 1 : 0;
      case '<' -> l < r ? 1 : 0;
      case '=' -> l == r ? 1 : 0;
      case '>' -> l > r ? 1 : 0;
      case '+' -> l + r;
      case '-' -> l - r;
      case '*' -> l * r;
      default -> r == 0 ? 0 : l / r;
    };
  }

  private static List<Token> tokens(List<Integer> tape) {
    List<Token> found = new ArrayList<>();
    int i = 0;
    boolean wordAhead = false;
    while (i < tape.size()) {
      char c = (char) (int) tape.get(i);
      if (c == ' ') {
        wordAhead = false;
        i++;
        continue;
      }
      String word = "" + c;
      int start = i++;
      boolean letters = c >= 'a' && c <= 'z', digits = c >= '0' && c <= '9';
      while (i < tape.size() && (letters && tape.get(i) >= 'a' && tape.get(i) <= 'z' || digits && tape.get(i) >= '0' && tape.get(i) <= '9')) {
        word += (char) (int) tape.get(i++);
      }
      found.add(new Token(word, start, wordAhead && (letters || digits)));
      wordAhead = letters || digits;
    }
    return found;
  }

  /** Place of the FAULT, or -1: by what may come next, with what stands open in a stack. */
  private static int fault(List<Token> tokens, int length) {
    if (tokens.isEmpty()) {
      return length;
    }
    int key = List.of(KEYS).indexOf(tokens.get(0).word);
    if (key < 0) {
      return tokens.get(0).start;
    }
    Deque<int[]> open = new ArrayDeque<>();
    boolean wantsPiece = true, tested = false;
    int bangs = 0, bangsHere = 0;
    for (Token t : tokens.subList(1, tokens.size())) {
      String w = t.word;
      if (t.glued) {
        return t.start;
      }
      if (wantsPiece) {
        if (t.isDigits() && w.length() <= 4 || t.isLetters() && w.length() == 1 && NAMES[key].contains(w)) {
          bangs -= bangsHere;
          bangsHere = 0;
          wantsPiece = false;
        } else if (w.equals("!") && bangs < 8) {
          bangs++;
          bangsHere++;
        } else if (w.equals("(") && open.size() < 8) {
          open.push(new int[] {bangsHere, tested ? 1 : 0});
          bangsHere = 0;
          tested = false;
        } else {
          return t.start;
        }
      } else if ("+-*/".contains(w)) {
        wantsPiece = true;
      } else if ("&|".contains(w)) {
        wantsPiece = true;
        tested = false;
      } else if ("<=>".contains(w) && !tested) {
        wantsPiece = true;
        tested = true;
      } else if (w.equals(")") && !open.isEmpty()) {
        int[] was = open.pop();
        bangs -= was[0];
        tested = was[1] == 1;
      } else {
        return t.start;
      }
    }
    return wantsPiece || !open.isEmpty() ? length : -1;
  }

  // the object

  private State s = new State();
  private State image = null;
  private final List<Integer> tape = new ArrayList<>();
  private final List<Integer> waits = new ArrayList<>();
  private final int[] sorts = {-1, -1, -1, -1};
  private final List<List<Integer>> sheets = new ArrayList<>(List.of(List.of(), List.of(), List.of(), List.of()));
  private final Object[] slots = new Object[5];

  /** A row in a slot. */
  private record Laid(List<Integer> row) {
  }

  private static boolean in(int v, int lo, int hi) {
    return lo <= v && v <= hi;
  }

  private boolean rider(int one) {
    return in(one, 0, s.riders.size() - 1);
  }

  /** The numbers that check(n) waits for. */
  List<Integer> minutesTold(int n) {
    List<Integer> told = new ArrayList<>();
    if (image != null) {
      State t = image.copied();
      for (int i = 0; i < n && t.minute < 9999; i++) {
        t.aMinute();
        told.add(t.crossed);
        told.add(t.heat());
      }
    }
    return told;
  }

  int call(String name, int[] a) {
    switch (name) {
      case "one": {
        if (!in(a[0], 0, 5) || !in(a[1], 0, 1)) {
          return BAD;
        }
        if (s.riders.size() == 9) {
          return FULL;
        }
        Rider r = new Rider();
        r.kind = a[0];
        r.bank = a[1];
        s.riders.add(r);
        return s.riders.size() - 1;
      }
      case "told": {
        if (!rider(a[0]) || !in(a[1], 0, 3)) {
          return BAD;
        }
        Rider r = s.riders.get(a[0]);
        return new int[] {r.kind, r.bank, r.temper, worthOf(r.kind, r.temper)}[a[1]];
      }
      case "view":
        return rider(a[0]) && in(a[1], 0, 5) ? s.riders.get(a[0]).views[a[1]] : BAD;
      case "believes": {
        if (!rider(a[0]) || !in(a[1], 0, 5) || !in(a[2], -3, 3)) {
          return BAD;
        }
        int was = s.riders.get(a[0]).views[a[1]];
        s.riders.get(a[0]).views[a[1]] = a[2];
        return was;
      }
      case "as":
        return !rider(a[0]) || !in(a[1], 0, 5) ? BAD : isOf(s.riders.get(a[0]).kind, a[1]) ? s.riders.get(a[0]).temper : KIND;
      case "turns": {
        if (!rider(a[0]) || !in(a[1], 0, 5)) {
          return BAD;
        }
        int was = s.riders.get(a[0]).kind;
        s.riders.get(a[0]).kind = a[1];
        return was;
      }
      case "set": {
        if (!rider(a[0]) || !(a[1] == 1 && in(a[2], 0, 1) || a[1] == 2 && in(a[2], 0, 99))) {
          return BAD;
        }
        Rider r = s.riders.get(a[0]);
        if (a[1] == 1 && r.bank == 2) {
          return NO;
        }
        int was = a[1] == 1 ? r.bank : r.temper;
        if (a[1] == 1) {
          r.bank = a[2];
        } else {
          r.temper = a[2];
        }
        return was;
      }
      case "rule": {
        int was = a[0] == 0 ? s.wind : s.limit;
        if (a[0] == 0 && in(a[1], 0, 9)) {
          s.wind = a[1];
        } else if (a[0] == 1 && in(a[1], 1, 99)) {
          s.limit = a[1];
        } else {
          return BAD;
        }
        return was;
      }
      case "deal": {
        if (!in(a[0], 1, 9)) {
          return BAD;
        }
        int came = 0;
        while (came < a[0] && s.riders.size() < 9) {
          Rider r = new Rider();
          r.kind = s.draw() % 6;
          r.bank = s.draw() % 2;
          for (int m = 0; m < 6; m++) {
            r.views[m] = s.draw() % 7 - 3;
          }
          s.riders.add(r);
          came++;
        }
        return came;
      }
      case "seed": {
        int was = s.z;
        s.z = a[0];
        return was;
      }
      case "boat":
        if (!in(a[0], 0, 4)) {
          return BAD;
        }
        if (s.way == 0) {
          return new int[] {s.bank, 0, NONE, NONE, NONE}[a[0]];
        }
        return new int[] {s.bank, s.way, s.a, s.b, s.matter}[a[0]];
      case "argues": {
        if (!rider(a[0]) || !rider(a[1]) || a[0] == a[1] || !in(a[2], 0, 5) || !in(a[3], 0, 3)) {
          return BAD;
        }
        Rider p = s.riders.get(a[0]), q = s.riders.get(a[1]);
        int v = p.views[a[2]], w = q.views[a[2]], apart = Math.abs(v - w);
        return new int[] {apart, s.speaks(p, apart), heats(p.kind, apart), shifts(p.kind, v, w)}[a[3]];
      }
      case "minutes": {
        if (!in(a[0], 1, 100)) {
          return BAD;
        }
        int was = s.crossed;
        for (int i = 0; i < a[0]; i++) {
          if (s.minute < 9999) {
            s.aMinute();
          }
        }
        return s.crossed - was;
      }
      case "ferry":
        return !in(a[0], 0, 5) ? BAD : new int[] {s.crossed, s.stranded, s.capsized, s.idle, s.those(), s.heat()}[a[0]];
      default:
        return callThought(name, a);
    }
  }

  private int overOf(int one, int other, int matter) {
    State t = s.copied();
    if (t.way > 0) {
      t.out(t.bank);
    }
    t.bank = 0;
    t.way = 1;
    t.a = one;
    t.b = other;
    t.matter = matter;
    for (int k = 1; k <= 40; k++) {
      int crossed = t.crossed, lost = t.stranded + t.capsized;
      t.aMinute();
      if (t.crossed > crossed) {
        return k;
      }
      if (t.stranded + t.capsized > lost) {
        return NONE;
      }
    }
    return NONE;
  }

  private boolean[][] friends;

  private int matching(List<Integer> free) {
    if (free.size() < 2) {
      return 0;
    }
    List<Integer> others = free.subList(1, free.size());
    int best = matching(others);
    for (Integer other : others) {
      if (friends[free.get(0)][other]) {
        List<Integer> left = new ArrayList<>(others);
        left.remove(other);
        best = Math.max(best, 1 + matching(left));
      }
    }
    return best;
  }

  private State behindOf(int n) {
    State t = s.copied();
    for (int i = 0; i < n; i++) {
      t.aMinute();
    }
    return t;
  }

  private int callThought(String name, int[] a) {
    switch (name) {
      case "over":
        return !rider(a[0]) || !rider(a[1]) || a[0] == a[1] || !in(a[2], 0, 5) ? BAD : overOf(a[0], a[1], a[2]);
      case "settles": {
        if (!rider(a[0]) || !rider(a[1]) || a[0] == a[1] || !in(a[2], 0, 1)) {
          return BAD;
        }
        for (int k = 1; k <= 40; k++) {
          for (int m = 0; m < 6; m++) {
            if (overOf(a[0], a[1], m) == k) {
              return a[2] == 0 ? m : k;
            }
          }
        }
        return NONE;
      }
      case "pairs": {
        if (!in(a[0], 0, 1)) {
          return BAD;
        }
        List<Integer> here = new ArrayList<>();
        for (int i = 0; i < s.riders.size(); i++) {
          if (s.riders.get(i).bank == a[0]) {
            here.add(i);
          }
        }
        friends = new boolean[9][9];
        for (int i : here) {
          for (int j : here) {
            for (int m = 0; m < 6 && i != j; m++) {
              friends[i][j] |= overOf(i, j, m) != NONE;
            }
          }
        }
        return matching(here);
      }
      case "behind": {
        if (!in(a[0], 0, 100) || !in(a[1], 0, 4 + s.riders.size())) {
          return BAD;
        }
        State t = behindOf(a[0]);
        return a[1] > 4 ? t.riders.get(a[1] - 5).temper : new int[] {t.crossed, t.stranded, t.capsized, t.idle, t.those()}[a[1]];
      }
      case "lands": {
        if (!rider(a[0])) {
          return BAD;
        }
        State t = s.copied();
        int k = 0;
        while (k <= 200 && t.riders.get(a[0]).bank != 1) {
          t.aMinute();
          k++;
        }
        return k <= 200 ? k : NONE;
      }
      case "calm": {
        if (!in(a[0], 1, 60) || !in(a[1], 0, 1)) {
          return BAD;
        }
        int best = -1, at = -1, real = s.limit;
        for (int limit = 95; limit >= 5; limit -= 5) {
          s.limit = limit;
          int crossed = behindOf(a[0]).crossed;
          if (crossed >= best) {
            best = crossed;
            at = limit;
          }
        }
        s.limit = real;
        return a[1] == 0 ? at : best;
      }
      case "becomes": {
        if (!rider(a[0]) || !in(a[1], 1, 60) || !in(a[2], 0, 1)) {
          return BAD;
        }
        int best = -1, at = -1, real = s.riders.get(a[0]).kind;
        for (int kind = 5; kind >= 0; kind--) {
          s.riders.get(a[0]).kind = kind;
          int crossed = behindOf(a[1]).crossed;
          if (crossed >= best) {
            best = crossed;
            at = kind;
          }
        }
        s.riders.get(a[0]).kind = real;
        return a[2] == 0 ? at : best;
      }
      case "like": {
        if (!in(a[0], 0, 3) || !in(a[1], 0, 1)) {
          return BAD;
        }
        if (sorts[a[0]] < 0) {
          return NOTHING;
        }
        int least = Integer.MAX_VALUE, who = NONE;
        for (int i = 0; i < s.riders.size(); i++) {
          int sum = 0;
          for (int k = 0; k < sheets.get(a[0]).size(); k++) {
            Integer v = sheets.get(a[0]).get(k);
            if (v != null) {
              sum += Math.abs(behindOf(k).riders.get(i).temper - v);
            }
          }
          if (sum < least) {
            least = sum;
            who = i;
          }
        }
        return who == NONE || a[1] == 0 ? who : least;
      }
      case "fee":
        return s.law(1) == null ? s.crossed : s.law(1).worth(s.crossed, s.stranded);
      case "fine": {
        if (!rider(a[0])) {
          return BAD;
        }
        Rider r = s.riders.get(a[0]);
        return s.law(2) == null ? r.temper : s.law(2).worth(r.temper, r.bank);
      }
      default:
        return callText(name, a);
    }
  }

  private int callText(String name, int[] a) {
    switch (name) {
      case "feed":
        if (tape.size() > 84) {
          return FULL;
        }
        for (int v : a) {
          for (int shift = 24; shift >= 0; shift -= 8) {
            tape.add(v >> shift & 0xff);
          }
        }
        return tape.size();
      case "trim":
        if (!in(a[0], 0, tape.size())) {
          return BAD;
        }
        tape.subList(a[0], tape.size()).clear();
        return a[0];
      case "text": {
        List<Token> tokens = tokens(tape);
        int fault = fault(tokens, tape.size());
        tape.clear();
        if (fault >= 0) {
          return -100 - fault;
        }
        if (s.laws.size() == 14) {
          return FULL;
        }
        s.laws.add(new Law(List.of(KEYS).indexOf(tokens.get(0).word), tokens.subList(1, tokens.size())));
        return s.laws.size() - 1;
      }
      case "textTold": {
        if (!in(a[0], 0, s.laws.size() - 1) || !in(a[1], 0, 1)) {
          return BAD;
        }
        Law law = s.laws.get(a[0]);
        return a[1] == 0 ? law.key : (int) law.body.stream().filter(t -> t.isDigits() || t.isLetters()).count();
      }
      case "why":
        return !in(a[0], 0, 2) ? BAD : s.law(a[0]) == null ? NONE : s.laws.lastIndexOf(s.law(a[0]));
      default:
        return callSheet(name, a);
    }
  }

  private int callSheet(String name, int[] a) {
    switch (name) {
      case "sheet": {
        if (!in(a[0], 0, 3) || !in(a[1], -1, 1) || a[1] >= 0 && a[2] > 24) {
          return BAD;
        }
        if (a[1] >= 0 && a[2] < 0) {
          return SIZE;
        }
        sorts[a[0]] = a[1];
        List<Integer> row = new ArrayList<>();
        for (int i = 0; a[1] >= 0 && i < a[2]; i++) {
          row.add(0);
        }
        sheets.set(a[0], row);
        return row.size();
      }
      case "mark": {
        if (!in(a[0], 0, 3)) {
          return BAD;
        }
        if (sorts[a[0]] < 0) {
          return NOTHING;
        }
        if (!in(a[1], 0, sheets.get(a[0]).size() - 1)) {
          return INDEX;
        }
        if (a[2] == NONE && sorts[a[0]] == 0) {
          return KIND;
        }
        if (a[2] != NONE && sorts[a[0]] == 1 && !in(a[2], -99999, 99999)) {
          return BAD;
        }
        sheets.get(a[0]).set(a[1], a[2] == NONE ? null : sorts[a[0]] == 0 ? Integer.valueOf((short) a[2]) : Integer.valueOf(a[2]));
        return 1;
      }
      case "pour": {
        if (!in(a[0], 0, 3)) {
          return BAD;
        }
        if (sorts[a[0]] < 0) {
          return NOTHING;
        }
        int changed = 0;
        for (int i = 0; i < sheets.get(a[0]).size() && i < s.riders.size(); i++) {
          Integer v = sheets.get(a[0]).get(i);
          int was = s.riders.get(i).temper;
          if (v != null) {
            s.riders.get(i).temper = Math.max(0, Math.min(99, v));
          }
          changed += was != s.riders.get(i).temper ? 1 : 0;
        }
        return changed;
      }
      case "reads": {
        if (!in(a[0], 0, 3)) {
          return BAD;
        }
        if (sorts[a[0]] < 0) {
          return NOTHING;
        }
        for (int i = 0; i < sheets.get(a[0]).size(); i++) {
          Integer v = sheets.get(a[0]).get(i);
          if (v != null && (i >= s.riders.size() || s.riders.get(i).bank != v)) {
            return i;
          }
        }
        return NONE;
      }
      case "copy": {
        if (!in(a[0], 0, 3) || !in(a[2], 0, 3)) {
          return BAD;
        }
        if (sorts[a[0]] < 0 || sorts[a[2]] < 0) {
          return NOTHING;
        }
        if (sorts[a[0]] != sorts[a[2]]) {
          return KIND;
        }
        long fromEnd = (long) a[1] + a[4], toEnd = (long) a[3] + a[4];
        if (a[1] < 0 || a[3] < 0 || a[4] < 0 || fromEnd > sheets.get(a[0]).size() || toEnd > sheets.get(a[2]).size()) {
          return INDEX;
        }
        List<Integer> were = new ArrayList<>(sheets.get(a[0]).subList(a[1], (int) fromEnd));
        for (int i = 0; i < a[4]; i++) {
          sheets.get(a[2]).set(a[3] + i, were.get(i));
        }
        return a[4];
      }
      default:
        return callSlot(name, a);
    }
  }

  private static int thing(Object held) {
    return held == null ? 0 : held instanceof Rider ? 1 : held instanceof Laid ? 2 : 3;
  }

  private int callSlot(String name, int[] a) {
    Object held = a.length > 0 && in(a[0], 0, 4) ? slots[a[0]] : null;
    switch (name) {
      case "lay": {
        if (!in(a[0], 0, 4) || !in(a[1], 0, 3) || a[1] == 1 && !rider(a[2]) || a[1] == 2 && !in(a[2], 0, 3)) {
          return BAD;
        }
        if (a[1] == 2 && sorts[a[2]] < 0) {
          return NOTHING;
        }
        slots[a[0]] = a[1] == 0 ? null : a[1] == 1 ? s.riders.get(a[2]).copied() : a[1] == 2 ? new Laid(new ArrayList<>(sheets.get(a[2]))) : (Object) a[2];
        return thing(held);
      }
      case "ask":
        if (!in(a[0], 0, 4) || !in(a[1], 0, 5)) {
          return BAD;
        }
        if (held == null) {
          return NOTHING;
        }
        return held instanceof Rider r && isOf(r.kind, a[1]) ? worthOf(r.kind, r.temper) : KIND;
      case "item": {
        if (!in(a[0], 0, 4)) {
          return BAD;
        }
        if (held == null) {
          return NOTHING;
        }
        if (!(held instanceof Laid laid)) {
          return KIND;
        }
        if (!in(a[1], 0, laid.row.size() - 1)) {
          return INDEX;
        }
        return laid.row.get(a[1]) == null ? KIND : laid.row.get(a[1]);
      }
      case "rest":
        if (!in(a[0], 0, 4)) {
          return BAD;
        }
        if (held == null) {
          return NOTHING;
        }
        return !(held instanceof Integer v) ? KIND : a[1] == 0 ? NO : v % a[1];
      default:
        return callRow(name, a);
    }
  }

  private int callRow(String name, int[] a) {
    switch (name) {
      case "tell":
        if (waits.size() == 60) {
          return FULL;
        }
        waits.add(a[0]);
        return waits.size();
      case "check": {
        List<Integer> given = new ArrayList<>(waits);
        waits.clear();
        if (!in(a[0], 1, 30)) {
          return BAD;
        }
        if (image == null) {
          return NO;
        }
        List<Integer> told = minutesTold(a[0]);
        int same = 0;
        while (same < told.size() && same < given.size() && told.get(same).equals(given.get(same))) {
          same++;
        }
        return same == told.size() && same == given.size() ? 0 : 1 + same;
      }
      case "keep":
        image = s.copied();
        return s.riders.size();
      case "back":
        if (image == null) {
          return NO;
        }
        s = image.copied();
        return s.riders.size();
      case "count":
        if (!in(a[0], 0, 7)) {
          return BAD;
        }
        return new int[] {s.riders.size(), s.minute, s.wind, s.limit, s.laws.size(), waits.size(), tape.size(), s.z}[a[0]];
      default:
        throw new IllegalStateException(name);
    }
  }
}
