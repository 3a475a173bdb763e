import java.util.ArrayList;
import java.util.List;

/** Objects to which much has happened, and all that can be seen of them. Each can be made anew, as an object takes 512 calls. */
final class Scenes {
  /** What is seen of an object is told in parts, as all of it would take too many calls: a part spoils what the others would see. */
  static final int PARTS = 4;
  private static final int MOST_PLACES = 24;

  private Scenes() {
  }

  /** A scene by its name; waits: whether numbers wait in it. */
  static ArguedFerry made(String scene, boolean waits) {
    return switch (scene) {
      case "new" -> new ArguedFerry();
      case "rich" -> rich(waits);
      case "full" -> full(waits);
      default -> throw new IllegalArgumentException(scene);
    };
  }

  /** Six passengers, one of each kind, as they are when the image is kept. */
  private static ArguedFerry six() {
    ArguedFerry x = new ArguedFerry();
    x.seed(5);
    for (int one = 0; one < 6; one++) {
      x.one(one, one / 3);
      x.set(one, 2, 5 + one);
      for (int matter = 0; matter < 6; matter++) {
        x.believes(one, matter, (2 * one + 3 * matter) % 7 - 3);
      }
    }
    x.rule(0, 2);
    x.rule(1, 88);
    Due.text(x, "speech d+t/9");
    Due.text(x, "fee c*10+s");
    Due.text(x, "fine t*3+b");
    return x;
  }

  private static ArguedFerry seven() {
    ArguedFerry x = new ArguedFerry();
    x.seed(77);
    x.deal(7);
    x.rule(1, 99);
    Due.text(x, "fee 500");
    Due.text(x, "speech 9-d");
    return x;
  }

  /** 0 and 1 or others are aboard, an image is kept, sheets and slots hold this and that, the tape has a text. */
  private static ArguedFerry rich(boolean waits) {
    ArguedFerry x = six();
    x.keep();
    Due.text(x, "fine t");
    x.turns(4, 3);
    x.set(5, 2, 44);
    x.believes(3, 3, 3);
    x.minutes(6);
    for (int i = 0; i < 20 && x.boat(1) == 0; i++) {
      x.minutes(1);
    }
    x.sheet(0, 0, 5);
    x.sheet(1, 1, 4);
    for (int place = 0; place < 4; place++) {
      x.mark(0, place, 100 - 60 * place);
      x.mark(1, place, place == 2 ? ArguedFerry.NONE : 3000 * place - 4);
    }
    x.sheet(3, 0, 0);
    x.lay(1, 1, 3);
    x.lay(2, 2, 0);
    x.lay(3, 3, 77);
    x.lay(4, 2, 1);
    Due.feed(x, "fee 7+s");
    if (waits) {
      tell(x, six(), 2);
    }
    return x;
  }

  /** As many passengers, texts, bytes, places and numbers that wait as there can be. */
  private static ArguedFerry full(boolean waits) {
    ArguedFerry x = seven();
    x.keep();
    x.deal(2);
    for (int text = 2; text < 14; text++) {
      Due.text(x, "fee c+" + text);
    }
    for (int sheet = 0; sheet < 4; sheet++) {
      x.sheet(sheet, sheet % 2, MOST_PLACES);
    }
    for (int slot = 0; slot < 5; slot++) {
      x.lay(slot, 1 + slot % 3, slot % 4);
    }
    Due.feed(x, "fee 1234+5678*(c+s)-1234+5678*(c+s)-1234+5678*(c+s)-1234+5678*(c+s)-1234+5678*(c+s)-1234+56-1234");
    if (waits) {
      tell(x, seven(), 30);
    }
    return x;
  }

  /** The minutes of another object are told, as those of the image that is like it. */
  private static void tell(ArguedFerry x, ArguedFerry asImage, int minutes) {
    for (int i = 0; i < minutes; i++) {
      asImage.minutes(1);
      x.tell(asImage.ferry(0));
      x.tell(asImage.ferry(5));
    }
  }

  static List<Integer> seen(ArguedFerry x, int part) {
    List<Integer> seen = new ArrayList<>();
    switch (part) {
      case 0 -> seeWorld(x, seen);
      case 1 -> seeSlots(x, seen);
      case 2 -> seeSheets(x, seen);
      default -> seeWhatWaits(x, seen);
    }
    return seen;
  }

  private static void seeWorld(ArguedFerry x, List<Integer> seen) {
    for (int what = 0; what < 8; what++) {
      seen.add(x.count(what));
      seen.add(x.ferry(what));
      seen.add(x.boat(what));
    }
    for (int one = 0; one < 9; one++) {
      for (int what = 0; what < 4; what++) {
        seen.add(x.told(one, what));
      }
      for (int matter = 0; matter < 6; matter++) {
        seen.add(x.view(one, matter));
      }
      seen.add(x.fine(one));
    }
    seen.add(x.fee());
    seen.add(x.argues(0, 1, 0, 1));
    for (int key = 0; key < 3; key++) {
      seen.add(x.why(key));
    }
    for (int text = 0; text < 14; text++) {
      seen.add(x.textTold(text, 0));
      seen.add(x.textTold(text, 1));
    }
  }

  private static void seeSlots(ArguedFerry x, List<Integer> seen) {
    for (int slot = 0; slot < 5; slot++) {
      for (int kind = 0; kind < 6; kind++) {
        seen.add(x.ask(slot, kind));
      }
      seen.add(x.rest(slot, Integer.MIN_VALUE));
      seeItems(x, slot, seen);
      seen.add(x.lay(slot, 0, 0));
    }
  }

  private static void seeItems(ArguedFerry x, int slot, List<Integer> seen) {
    int place = 0;
    for (int item = 0; item != ArguedFerry.INDEX && place <= MOST_PLACES; place++) {
      item = x.item(slot, place);
      seen.add(item);
    }
  }

  private static void seeSheets(ArguedFerry x, List<Integer> seen) {
    for (int sheet = 0; sheet < 4; sheet++) {
      seen.add(x.copy(sheet, 0, 0, 0, 0));
      seen.add(x.copy(sheet, 0, 1, 0, 0));
      x.lay(4, 0, 0);
      seen.add(x.lay(4, 2, sheet));
      seeItems(x, 4, seen);
    }
  }

  private static void seeWhatWaits(ArguedFerry x, List<Integer> seen) {
    seen.add(x.count(5));
    seen.add(x.check(x.count(5) > 4 ? 30 : 2));
    seen.add(x.back());
    seeWorld(x, seen);
    seen.add(x.text());
    seen.add(x.fee());
    seen.add(x.fine(0));
  }
}
