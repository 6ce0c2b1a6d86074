import java.util.ArrayList;
import java.util.List;
import java.util.function.Supplier;

/**
 * Cases: each is of one sentence of the document, which it quotes, and of one edge that the sentence names. A case
 * makes objects of its own. SentencesTest looks that no sentence is without a case.
 */
final class Edge {
  /** The sections of the document that are no promise; a promise's section is its number. */
  static final int WHAT_IT_IS = -1;
  static final int TERMS = 0;

  static final int MIN = Integer.MIN_VALUE;
  static final int MAX = Integer.MAX_VALUE;
  static final int[] NO_GRANULES = {-1, Scene.SIZE, MIN, MAX};
  static final int[] NO_PAGES = {-1, 4096, MIN, MAX};
  static final int[] NOT_PROTECTED = {-1, 2048, 4095, 4096, MIN, MAX};
  static final int[] NOT_SHARED = {-1, 0, 2047, 4096, MIN, MAX};
  static final int[] NO_WORDS = {-1, 32, MIN, MAX};
  static final int[] NO_REGISTERS = {-1, 8, MIN, MAX};

  record Case(int section, String quote, String edge, Runnable body) { }

  private static final List<Case> CASES = new ArrayList<>();
  private static int section;

  private Edge() { }

  /** The section that the next cases quote. */
  static void section(int of) {
    section = of;
  }

  static void test(String quote, String edge, Runnable body) {
    CASES.add(new Case(section, quote, edge, body));
  }

  static List<Case> all() {
    return CASES;
  }

  static void run(String test) {
    int failed = 0;
    for (Case c : CASES) {
      int before = Due.wrong();
      Due.about(where(c.section) + ", '" + c.quote + "', " + c.edge + ": ");
      try {
        c.body.run();
      } catch (RuntimeException e) {
        Due.is("ended by " + e + ", " + e.getCause(), 1, 0);
      }
      failed += Due.wrong() > before ? 1 : 0;
    }
    Due.about("");
    System.out.println(test + ": " + CASES.size() + " cases, " + failed + " failed");
    Due.end(test);
  }

  static String where(int section) {
    return section > TERMS ? "promise " + section : section == TERMS ? "terms" : "what it is";
  }

  // ---- the most usual cases

  static void done(String quote, String edge, Supplier<Hall> scene, int want, String call, int... args) {
    test(quote, edge, () -> scene.get().done(want, call, args));
  }

  static void yes(String quote, String edge, Supplier<Hall> scene, String call, int... args) {
    done(quote, edge, scene, 1, call, args);
  }

  static void tells(String quote, String edge, Supplier<Hall> scene, int want, String call, int... args) {
    test(quote, edge, () -> scene.get().tells(want, call, args));
  }

  static void refused(String quote, String edge, Supplier<Hall> scene, int status, String call, int... args) {
    test(quote, edge, () -> scene.get().refused(status, call, args));
  }

  static void faults(String quote, String edge, Supplier<Hall> scene, String call, int... args) {
    test(quote, edge, () -> scene.get().faults(call, args));
  }

  /** The call is refused with STATUS 1 as one of its arguments is any of these. */
  static void outOfBounds(String quote, Supplier<Hall> scene, int[] bad, String call, int place, int... good) {
    for (int value : bad) {
      refused(quote, call + " with " + value + " at place " + place, scene, 1, call, put(good, place, value));
    }
  }

  static void noGranule(String quote, Supplier<Hall> scene, String call, int place, int... good) {
    outOfBounds(quote, scene, NO_GRANULES, call, place, good);
  }

  /** The call is refused with STATUS 2 as one of its GRANULES is of any other STATE than the right one. */
  static void otherStates(String quote, Supplier<Hall> scene, int right, String call, int place, int... good) {
    for (int state = 0; state < Scene.OF_STATE.length; state++) {
      if (state != right) {
        String edge = call + " with STATE " + state + " at place " + place;
        refused(quote, edge, scene, 2, call, put(good, place, Scene.OF_STATE[state]));
      }
    }
  }

  static void actFaults(String quote, Supplier<Hall> scene, int[] bad, String call, int place, int... good) {
    for (int value : bad) {
      faults(quote, call + " with " + value + " at place " + place, scene, call, put(good, place, value));
    }
  }

  private static int[] put(int[] good, int place, int value) {
    int[] args = good.clone();
    args[place] = value;
    return args;
  }
}
