import java.util.List;
import java.util.function.Consumer;

/**
 * Compares two halls by all that is told of them, and by what comes of using them further. Each part of the look has
 * objects of its own, so that all keep within the calls that the document promises.
 */
final class Twins {
  private static final int[] PAGES = {
    0, 1, 2, 3, 4, 5, 6, 7, 8, 15, 16, 63, 64, 511, 512, 1536, 2040, 2047, 2048, 2049, 2050, 2055, 2056, 3584, 4095
  };
  private static final int LOADED_AT_ONCE = 8;

  private Twins() { }

  /** The second is as the first, but for so many FAULTS more. */
  static void alike(String what, Hall first, Hall second, int faults) {
    Due.is(what + ": count(10)", first.again().ask("count", 10) + faults, second.again().ask("count", 10));
    compare(what, first, second, Twins::granules);
    compare(what, first, second, Twins::contexts);
    compare(what, first, second, Twins::pending);
    for (int g = 0; g < first.size; g++) {
      int of = g;
      if (first.object.granule(g, 0) == 2) {
        compare(what, first, second, h -> realm(h, of));
        compare(what, first, second, h -> walks(h, of));
      } else if (first.object.granule(g, 0) == 5) {
        compare(what, first, second, h -> dataWords(h, of));
      }
    }
    for (int g = 0; g < first.size; g += LOADED_AT_ONCE) {
      int from = g;
      compare(what, first, second, h -> words(h, from));
    }
  }

  private static void compare(String what, Hall first, Hall second, Consumer<Hall> look) {
    Hall without = first.again();
    Hall with = second.again();
    int fromFirst = without.asked();
    int fromSecond = with.asked();
    look.accept(without);
    look.accept(with);
    boolean same = without.answers(fromFirst).equals(with.answers(fromSecond));
    Due.yes(what, same);
    if (!same) {
      printFirst(without.told(fromFirst), with.told(fromSecond));
    }
  }

  private static void printFirst(List<String> without, List<String> with) {
    for (int i = 0; i < without.size() && i < with.size(); i++) {
      if (!without.get(i).equals(with.get(i))) {
        System.out.println("  " + with.get(i) + ", due is " + without.get(i));
        return;
      }
    }
  }

  private static void granules(Hall h) {
    for (int what = 0; what < 10; what++) {
      h.ask("count", what);
    }
    h.ask("astray");
    for (int g = 0; g < h.size; g++) {
      for (int what = 0; what < 3; what++) {
        h.ask("granule", g, what);
      }
    }
  }

  private static void realm(Hall h, int rd) {
    for (int what = 0; what < 7; what++) {
      h.ask("realm", rd, what);
    }
    for (int i = 0; i < 5; i++) {
      for (int k = 0; k < 8; k++) {
        h.ask("measured", rd, i, k);
      }
    }
  }

  private static void contexts(Hall h) {
    for (int g = 0; g < h.size; g++) {
      if (h.ask("granule", g, 0) == 3) {
        for (int what = 0; what < 14; what++) {
          h.ask("context", g, what);
        }
      }
    }
  }

  private static void walks(Hall h, int rd) {
    for (int page : PAGES) {
      for (int what = 0; what < 4; what++) {
        h.ask("walk", rd, page, 3, what);
      }
    }
  }

  /** The WORDS of the UNDELEGATED ones among a few GRANULES. */
  private static void words(Hall h, int first) {
    for (int g = first; g < first + LOADED_AT_ONCE && g < h.size; g++) {
      if (h.ask("granule", g, 0) == 0) {
        for (int word = 0; word < 32; word++) {
          h.ask("load", g, word);
        }
      }
    }
  }

  private static int firstOf(Hall h, int state) {
    for (int g = 0; g < h.size; g++) {
      if (h.ask("granule", g, 0) == state) {
        return g;
      }
    }
    return GranuleHall.NONE;
  }

  /** What DATA holds, which is told by none: a REC has to fetch it, once its PAGE is RAM. */
  private static void dataWords(Hall h, int data) {
    int rd = h.ask("granule", data, 1);
    int page = h.ask("granule", data, 2);
    int run = firstOf(h, 0);
    h.ask("yield1");
    int rec = runnable(h, rd);
    if (rec == GranuleHall.NONE) {
      rec = firstOf(h, 1);
      h.ask("store", run, 8, 1);
      h.ask("rec", rec, rd, run);
    }
    h.ask("activate", rd);
    h.ask("enter", rec, run);
    h.ask("ask", page, page + 1, 1);
    h.ask("change", rec);
    h.ask("enter", rec, run);
    for (int word = 0; word < 32; word++) {
      h.ask("fetch", 7, page, word);
      h.ask("context", rec, 7);
    }
  }

  private static int runnable(Hall h, int rd) {
    for (int g = 0; g < h.size; g++) {
      if (h.ask("granule", g, 1) == rd && h.ask("context", g, 8) == 1) {
        return g;
      }
    }
    return GranuleHall.NONE;
  }

  /** What is PENDING, and the RUN that a RUNNING one keeps. */
  private static void pending(Hall h) {
    int run = firstOf(h, 0);
    int kept = h.ask("count", 7);
    h.ask("yield1");
    for (int g = 0; g < h.size; g++) {
      if (h.ask("granule", g, 0) == 0) {
        h.ask("load", g, 0);
      }
    }
    for (int g = 0; g < h.size; g++) {
      if (g != kept && h.ask("granule", g, 0) == 3) {
        h.ask("change", g);
        h.ask("enter", g, run);
        h.ask("context", g, 0);
        h.ask("context", g, 1);
        h.ask("yield1");
      }
    }
  }
}
