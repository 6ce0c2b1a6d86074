import java.util.function.Supplier;

/** The edges that the document's terms name: GRANULES, REALMS, PAGES, LEVELS, and calls that are REFUSED. */
final class TermsEdgesTest {
  private static final int RD = Scene.RD;
  private static final int REC = Scene.REC;
  private static final int FREE = Scene.FREE;
  private static final int HOST = Scene.HOST;
  private static final int RUN = Scene.RUN;
  private static final int[] SPANS = {512, 64, 8, 1};

  public static void main(String[] args) {
    cases();
    Edge.run("TermsEdgesTest");
  }

  static void cases() {
    Edge.section(Edge.WHAT_IT_IS);
    manyCalls();
    Edge.section(Edge.TERMS);
    granules();
    wordsBecome0();
    realms();
    pages();
    levels();
    entries();
    walks();
    firstThatHolds();
    status();
    Edge.test("The constants: `NONE = -1`", "NONE", () -> Due.is("NONE", -1, GranuleHall.NONE));
  }

  private static void manyCalls() {
    String quote = "An object is used for at most 512 calls after it has been made";
    Edge.test(quote, "the 512th is answered", () -> {
      Hall h = new Hall(16);
      for (int i = 0; i < 511; i++) {
        h.with("store", i % 16, i % 32, i + 1);
      }
      Due.is("the 512th call", 511, h.ask("load", 14, 30));
    });
    Edge.test(quote, "RTTS that come and go", () -> {
      Hall h = new Hall(16).with("delegate", 0).with("delegate", 1).with("delegate", 2).with("create", 0, 1);
      for (int i = 0; i < 252; i++) {
        h.with("table", 0, 2, 512, 1).with(i % 2 == 0 ? "untable" : "fold", 0, 512, 1);
      }
      Due.is("RTTS", 1, h.ask("realm", 0, 3));
      Due.is("astray", 0, h.ask("astray"));
    });
    Edge.test(quote, "REALMS that come and go", () -> {
      Hall h = new Hall(96).with("delegate", 94).with("delegate", 95);
      for (int i = 0; i < 254; i++) {
        h.with("create", 95, 94).with("destroy", 95);
      }
      Due.is("REALMS", 0, h.ask("count", 8));
      Due.is("DELEGATED", 2, h.ask("count", 2));
    });
    Edge.test(quote, "RECS that come and go have numbers of their own", () -> {
      Hall h = new Hall(16).with("delegate", 0).with("delegate", 1).with("delegate", 2).with("create", 0, 1);
      for (int i = 0; i < 250; i++) {
        Due.is("number", i, h.ask("rec", 2, 0, 3));
        h.with("end", 2);
      }
      Due.is("RECS that came", 250, h.ask("realm", 0, 6));
      Due.is("RECS that it has", 0, h.ask("realm", 0, 2));
    });
    Edge.test(quote, "a REC that is entered over and over", () -> {
      Hall h = Scene.active();
      for (int i = 0; i < 200; i++) {
        h.with("enter", REC, RUN).with("yield1");
      }
      Due.is("how often", 200, h.ask("context", REC, 13));
      Due.is("EXITS", 200, h.ask("count", 9));
    });
  }

  private static void granules() {
    String quote = "GRANULES 0 .. n - 1 have 32 WORDS (ints) and a STATE";
    for (int n : new int[] {16, 17, 95, 96}) {
      Supplier<Hall> hall = () -> new Hall(n);
      Edge.yes(quote, "GRANULE 0 of " + n, hall, "store", 0, 0, 1);
      Edge.yes(quote, "the last of " + n, hall, "store", n - 1, 31, 1);
      Edge.refused(quote, "behind the last of " + n, hall, 1, "store", n, 0, 1);
      Edge.refused(quote, "ahead of the first of " + n, hall, 1, "store", -1, 0, 1);
    }
    for (int v : new int[] {Edge.MIN, Edge.MAX, -1, 0}) {
      Edge.test(quote, "a WORD is any int: " + v,
          () -> Scene.delegated().with("store", HOST, 31, v).done(v, "load", HOST, 31));
    }
    for (int state = 0; state < 6; state++) {
      Edge.tells(quote, "STATE " + state, Scene::furnished, state, "granule", Scene.OF_STATE[state], 0);
    }
  }

  private static void loadsZeros(Hall h, int granule) {
    for (int word = 0; word < 32; word++) {
      h.done(0, "load", granule, word);
    }
  }

  private static void fetchesZeros(Hall h, int page) {
    for (int word = 0; word < 32; word++) {
      h.done(0, "fetch", 1, page, word);
      Due.is("PAGE " + page + ", word " + word, 0, h.ask("context", REC, 1));
    }
  }

  private static void wordsBecome0() {
    String quote = "A GRANULE's WORDS become 0 with each change of STATE";
    Edge.test(quote, "UNDELEGATED, DELEGATED, UNDELEGATED",
        () -> loadsZeros(Scene.furnished().with("delegate", Scene.SOURCE).with("undelegate", Scene.SOURCE),
            Scene.SOURCE));
    Edge.test(quote, "UNDELEGATED, DELEGATED, DATA", () -> fetchesZeros(
        Scene.running().with("delegate", Scene.SOURCE).with("unknown", RD, Scene.SOURCE, 6), 6));
    Edge.test(quote, "DATA, DELEGATED, UNDELEGATED", () -> loadsZeros(
        Scene.active().with("undata", RD, 5).with("undelegate", Scene.DATA), Scene.DATA));
    Edge.test(quote, "DATA, DELEGATED, DATA", () -> fetchesZeros(
        Scene.running().with("undata", RD, 5).with("unknown", RD, Scene.DATA, 6), 6));
    Edge.test("but for what is told", "DATA has the WORDS of its source", () -> {
      Hall h = Scene.running();
      h.done(0, "fetch", 1, 5, 31);
      Due.is("word 31", 531, h.ask("context", REC, 1));
    });
    String told = "(WORDS of RD, REC, RTT are 0; what they stand for is told otherwise.)";
    Edge.test(told, "an RD that ends", () -> loadsZeros(
        Scene.created().with("destroy", RD).with("undelegate", RD), RD));
    Edge.test(told, "a root RTT that ends", () -> loadsZeros(
        Scene.created().with("ripas", RD, 0).with("destroy", RD).with("undelegate", Scene.ROOT), Scene.ROOT));
    Edge.test(told, "an RTT that ends", () -> loadsZeros(
        Scene.tabled().with("untable", RD, 0, 3).with("undelegate", Scene.T3), Scene.T3));
    Edge.test(told, "a REC that ends", () -> loadsZeros(
        Scene.active().with("end", REC).with("undelegate", REC), REC));
    for (int g : new int[] {RD, REC, Scene.ROOT, Scene.T3}) {
      Edge.refused(told, "none of them is loaded: " + g, Scene::furnished, 2, "load", g, 0);
    }
  }

  private static void realms() {
    String quote = "A REALM is told by its RD.";
    for (int g : new int[] {Scene.ROOT, REC, Scene.DATA, FREE, HOST}) {
      Edge.tells(quote, "not by " + g, Scene::furnished, -1, "realm", g, 0);
      Edge.refused(quote, "not by " + g, Scene::furnished, 2, "activate", g);
    }
    String how = "It is 0 NEW, 1 ACTIVE, 2 OFF; it has a root RTT";
    Edge.tells(how, "NEW", Scene::furnished, 0, "realm", RD, 0);
    Edge.tells(how, "ACTIVE", Scene::active, 1, "realm", RD, 0);
    Edge.tells(how, "OFF", Scene::off, 2, "realm", RD, 0);
    Edge.tells(how, "its root", Scene::off, Scene.ROOT, "realm", RD, 1);
    String recs = "RECS numbered 0, 1, .. as they come";
    Edge.test(recs, "the first is 0, and a second REALM counts anew", () -> Scene.crowd()
        .tells(0, "granule", REC, 2).tells(1, "granule", Scene.REC2, 2).tells(2, "granule", Scene.IDLE, 2)
        .tells(0, "granule", Scene.REC3, 2));
    String measurements = "a MEASUREMENT 0 (RIM) and 1 .. 4, each of 8 words";
    Edge.test(measurements, "the last word of the RIM", () -> Scene.created()
        .tells(Sha.of(1, Scene.SIZE)[7], "measured", RD, 0, 7));
    Edge.tells(measurements, "there is no word 8", Scene::furnished, 0, "measured", RD, 0, 8);
    Edge.tells(measurements, "there is no MEASUREMENT 5", Scene::furnished, 0, "measured", RD, 5, 0);
    Edge.tells(measurements, "there is no MEASUREMENT -1", Scene::furnished, 0, "measured", RD, -1, 0);
    Edge.test(measurements, "MEASUREMENT 4 is there", () -> {
      Hall h = Scene.running().with("extend", 4);
      int[] x = {100, 101, 102, 103, 104, 105, 106, 107};
      h.tells(Sha.extended(new int[8], x)[7], "measured", RD, 4, 7);
    });
  }

  private static void pages() {
    String quote = "PAGES of a REALM are 0 .. 4095; those below 2048 are PROTECTED.";
    Edge.tells(quote, "PAGE 0", Scene::tabled, 3, "walk", RD, 0, 3, 0);
    Edge.tells(quote, "PAGE 4095", Scene::tabled, 0, "walk", RD, 4095, 3, 0);
    Edge.tells(quote, "no PAGE -1", Scene::tabled, -1, "walk", RD, -1, 3, 0);
    Edge.tells(quote, "no PAGE 4096", Scene::tabled, -1, "walk", RD, 4096, 3, 0);
    Edge.done(quote, "2047 is PROTECTED", Scene::tabled, 512, "ripas", RD, 2047);
    Edge.refused(quote, "2048 is not", Scene::tabled, 1, "ripas", RD, 2048);
    Edge.yes(quote, "2048 is not, and can be mapped", Scene::ends, "map", RD, 2048, HOST);
    Edge.refused(quote, "2047 is, and can't be mapped", Scene::ends, 1, "map", RD, 2047, HOST);
    Edge.yes(quote, "4095 can be mapped", Scene::ends, "map", RD, 4095, HOST);
    Edge.refused(quote, "4096 can't", Scene::ends, 1, "map", RD, 4096, HOST);
  }

  private static void levels() {
    String quote = "An RTT is of a LEVEL 0 (the root) .. 3, and has 8 ENTRIES";
    int[] rtts = {Scene.ROOT, Scene.T1, Scene.T2, Scene.T3};
    for (int level = 0; level < 4; level++) {
      Edge.tells(quote, "LEVEL " + level, Scene::tabled, level, "granule", rtts[level], 2);
    }
    Edge.refused(quote, "no RTT of LEVEL 4", Scene::tabled, 1, "table", RD, FREE, 0, 4);
    Edge.refused(quote, "no second root", Scene::created, 1, "table", RD, FREE, 0, 0);
    String spans = "an ENTRY of LEVEL k covers SPAN(k) = 512, 64, 8, 1 PAGES";
    for (int level = 0; level < 4; level++) {
      int k = level;
      int span = SPANS[level];
      Edge.test(spans, "SPAN(" + k + "), the first and the last PAGE of the ENTRY ahead of the last", () -> {
        Hall h = spanned(k);
        int first = 6 * span;
        if (k == 0) {
          first = 2 * span;
        }
        h.done(span, "ripas", RD, first);
        h.tells(0, "walk", RD, first - 1, 3, 2).tells(1, "walk", RD, first, 3, 2);
        h.tells(1, "walk", RD, first + span - 1, 3, 2).tells(0, "walk", RD, first + span, 3, 2);
        h.tells(span, "realm", RD, 5);
      });
    }
    String eight = "and has 8 ENTRIES";
    Edge.test(eight, "of the root: PAGES 3584 .. 4095 are the last's", () -> Scene.created()
        .with("table", RD, FREE, 3584, 1).tells(0, "walk", RD, 3583, 3, 0).tells(1, "walk", RD, 3584, 3, 0)
        .tells(1, "walk", RD, 4095, 3, 0));
    Edge.test(eight, "of LEVEL 3: 8 PAGES can be given, the ninth is another's", () -> {
      Hall h = Scene.tabled();
      for (int page = 0; page < 8; page++) {
        h.yes("unknown", RD, 8 + page, page);
      }
      h.refused(5, "unknown", RD, 16, 8);
      h.tells(8, "realm", RD, 4);
    });
  }

  /** A REALM whose PAGES 0 .. are of this LEVEL. */
  private static Hall spanned(int level) {
    Hall h = Scene.created();
    for (int k = 1; k <= level; k++) {
      h.with("table", RD, 1 + k, 0, k);
    }
    return h;
  }

  private static void entries() {
    String quote = "1 ASSIGNED (a GRANULE; of LEVEL 3 alone)";
    for (int level = 0; level < 3; level++) {
      int k = level;
      Edge.test(quote, "no DATA at LEVEL " + k, () -> spanned(k).with("ripas", RD, 0)
          .refused(5, "data", RD, FREE, 0, Scene.SOURCE).refused(5, "unknown", RD, FREE, 0));
    }
    Edge.refused(quote, "nothing mapped at LEVEL 0", Scene::created, 5, "map", RD, 2048, HOST);
    Edge.refused(quote, "nothing mapped at LEVEL 1", Scene::tabled, 5, "map", RD, 2112, HOST);
    Edge.refused(quote, "nothing mapped at LEVEL 2", Scene::tabled, 5, "map", RD, 2056, HOST);
    Edge.tells("2 a TABLE (an RTT of the next LEVEL)", "of LEVEL 1 in the root", Scene::tabled, Scene.T1, "walk", RD,
        0, 0, 3);
    Edge.tells("An ENTRY is 0 UNASSIGNED", "of LEVEL 3", Scene::tabled, 0, "walk", RD, 0, 3, 1);
    Edge.tells("An ENTRY is 0 UNASSIGNED", "ASSIGNED is 1", Scene::furnished, 1, "walk", RD, 5, 3, 1);
    String ripas = "(of a TABLE, and not PROTECTED: EMPTY)";
    Edge.test(ripas, "a TABLE where RAM was", () -> Scene.created().with("ripas", RD, 0)
        .with("table", RD, FREE, 0, 1).tells(0, "walk", RD, 0, 0, 2).tells(1, "walk", RD, 0, 1, 2));
    Edge.test(ripas, "not PROTECTED, from a TABLE", () -> Scene.tabled().with("untable", RD, 2048, 3)
        .tells(0, "walk", RD, 2048, 3, 2));
    Edge.test(ripas, "not PROTECTED, ASSIGNED and no more", () -> Scene.tabled().with("map", RD, 2048, HOST)
        .tells(0, "walk", RD, 2048, 3, 2).with("unmap", RD, 2048).tells(0, "walk", RD, 2048, 3, 2));
  }

  private static void walks() {
    String quote = "on through TABLES, at most to that LEVEL";
    for (int level = 0; level < 4; level++) {
      Edge.tells(quote, "as far as LEVEL " + level, Scene::tabled, level, "walk", RD, 7, level, 0);
    }
    Edge.tells(quote, "no further than the TABLES", Scene::tabled, 2, "walk", RD, 8, 3, 0);
    Edge.tells(quote, "to LEVEL -1", Scene::tabled, -1, "walk", RD, 0, -1, 0);
    Edge.tells(quote, "to LEVEL 4", Scene::tabled, -1, "walk", RD, 0, 4, 0);
    String leaf = "The LEAF of a PAGE is where its WALK to LEVEL 3 ends.";
    Edge.done(leaf, "LEVEL 3", Scene::tabled, 1, "ripas", RD, 7);
    Edge.done(leaf, "LEVEL 2", Scene::tabled, 8, "ripas", RD, 8);
    Edge.done(leaf, "LEVEL 1", Scene::tabled, 64, "ripas", RD, 64);
    Edge.done(leaf, "LEVEL 0", Scene::tabled, 512, "ripas", RD, 512);
  }

  /** Calls for which two reasons hold at once: the lower STATUS is told. */
  private static void firstThatHolds() {
    String quote = "change nothing but STATUS, the first that holds";
    Edge.refused(quote, "load, 1 and 2", Scene::furnished, 1, "load", RD, 32);
    Edge.refused(quote, "store, 1 and 2", Scene::furnished, 1, "store", RD, -1, 9);
    Edge.refused(quote, "create, 1 and 2", Scene::furnished, 1, "create", HOST, Scene.SIZE);
    Edge.refused(quote, "create, the same twice and 2", Scene::furnished, 1, "create", HOST, HOST);
    Edge.refused(quote, "rec, 1 and 2", Scene::furnished, 1, "rec", HOST, RD, -1);
    Edge.refused(quote, "rec, 1 and 3", Scene::active, 1, "rec", FREE, RD, Scene.SIZE);
    Edge.refused(quote, "rec, 2 and 3", Scene::active, 2, "rec", FREE, RD, Scene.FREE2);
    Edge.refused(quote, "table, 1 and 2", Scene::tabled, 1, "table", Scene.ROOT, FREE, 0, 4);
    Edge.refused(quote, "table, 1 and 5", Scene::tabled, 1, "table", RD, FREE, 1, 1);
    Edge.refused(quote, "table, 2 and 5", Scene::tabled, 2, "table", RD, HOST, 0, 1);
    for (String call : new String[] {"untable", "fold"}) {
      Edge.refused(quote, call + ", 1 and 2", Scene::tabled, 1, call, Scene.ROOT, 0, 4);
      Edge.refused(quote, call + ", 1 and 5", Scene::tabled, 1, call, RD, 513, 1);
    }
    Edge.refused(quote, "ripas, 1 and 2", Scene::tabled, 1, "ripas", Scene.ROOT, 2048);
    Edge.refused(quote, "ripas, 1 and 3", Scene::active, 1, "ripas", RD, 2048);
    Edge.refused(quote, "ripas, 3 and 5", Scene::active, 3, "ripas", RD, 5);
    Edge.refused(quote, "data, 1 and 2", Scene::furnished, 1, "data", RD, HOST, 2048, Scene.SOURCE);
    Edge.refused(quote, "data, 1 and 3", Scene::active, 1, "data", RD, FREE, 6, -1);
    Edge.refused(quote, "data, 1 and 5", Scene::furnished, 1, "data", RD, FREE, 5, -1);
    Edge.refused(quote, "data, 2 and 3", Scene::active, 2, "data", RD, FREE, 6, Scene.FREE2);
    Edge.refused(quote, "data, 2 and 5", Scene::furnished, 2, "data", RD, HOST, 5, Scene.SOURCE);
    Edge.refused(quote, "data, 3 and 5", Scene::active, 3, "data", RD, FREE, 5, Scene.SOURCE);
    Edge.refused(quote, "unknown, 1 and 2", Scene::furnished, 1, "unknown", RD, HOST, 2048);
    Edge.refused(quote, "unknown, 1 and 3", Scene::off, 1, "unknown", RD, FREE, 2048);
    Edge.refused(quote, "unknown, 2 and 3", Scene::off, 2, "unknown", RD, HOST, 6);
    Edge.refused(quote, "unknown, 2 and 5", Scene::furnished, 2, "unknown", RD, HOST, 5);
    Edge.refused(quote, "unknown, 3 and 5", Scene::off, 3, "unknown", RD, FREE, 5);
    Edge.refused(quote, "undata, 1 and 2", Scene::furnished, 1, "undata", HOST, 2048);
    Edge.refused(quote, "map, 1 and 2", Scene::furnished, 1, "map", HOST, 2047, HOST);
    Edge.refused(quote, "map, 1 and 5", Scene::furnished, 1, "map", RD, 2056, -1);
    Edge.refused(quote, "unmap, 1 and 2", Scene::furnished, 1, "unmap", HOST, 2047);
    Edge.refused(quote, "enter, 1 and 2", Scene::running, 1, "enter", RD, -1);
    Edge.refused(quote, "enter, 1 and 3", Scene::furnished, 1, "enter", REC, -1);
    Edge.refused(quote, "enter, 1 and 4", Scene::running, 1, "enter", REC, Scene.SIZE);
    Edge.refused(quote, "enter, 2 and 3", Scene::furnished, 2, "enter", REC, FREE);
    Edge.refused(quote, "enter, 2 and 4", Scene::running, 2, "enter", REC, FREE);
    Edge.test(quote, "enter, 3 and 4: not ACTIVE, one is RUNNING", () -> Scene.crowd().with("enter", REC, RUN)
        .with("off").with("enter", Scene.REC3, RUN).refused(3, "enter", REC, HOST));
    Edge.test(quote, "enter, 3 and 4: not ACTIVE, not RUNNABLE", () -> Scene.crowd().with("enter", REC, RUN)
        .with("off").refused(3, "enter", Scene.IDLE, RUN));
    Edge.test(quote, "change, 4 and 5: NEXT is to, and the ENTRY there ends behind it", () -> Scene.running()
        .with("ask", 7, 8, 1).with("change", REC).refused(4, "change", REC));
    String answer = "REFUSED calls answer NONE (false, 0)";
    Edge.refused(answer, "ripas answers NONE", Scene::tabled, 1, "ripas", RD, 2048);
    Edge.refused(answer, "rec answers NONE", Scene::active, 3, "rec", FREE, RD, Scene.PARAMS);
    Edge.refused(answer, "undata answers NONE", Scene::tabled, 5, "undata", RD, 0);
    Edge.refused(answer, "unmap answers NONE", Scene::tabled, 5, "unmap", RD, 2048);
    Edge.refused(answer, "change answers NONE", Scene::active, 4, "change", REC);
  }

  private static void status() {
    String quote = "STATUS is 0 as a call is done (acts that FAULT or EXIT, too)";
    Supplier<Hall> refused = () -> {
      Hall h = Scene.running();
      h.ask("delegate", -1);
      return h;
    };
    Edge.yes(quote, "a host's call", refused, "store", HOST, 0, 1);
    Edge.done(quote, "a host's call that answers a number", refused, Scene.DATA, "undata", RD, 5);
    Edge.done(quote, "an act", refused, 0, "move", 0, 1);
    Edge.done(quote, "an act that FAULTS", refused, 1, "move", 8, 1);
    Edge.done(quote, "an act that FAULTS at an EMPTY PAGE", refused, 1, "fetch", 0, 4, 0);
    Edge.done(quote, "an act that EXITS", refused, 2, "yield1");
    Edge.done(quote, "an act that ABORTS", refused, 2, "fetch", 0, 6, 0);
    String tells = "what only tells leaves it (load() sets it)";
    Edge.tells(tells, "granule", refused, 2, "granule", RD, 0);
    Edge.tells(tells, "granule, NONE", refused, -1, "granule", -1, 0);
    Edge.tells(tells, "realm", refused, 1, "realm", RD, 0);
    Edge.tells(tells, "realm, NONE", refused, -1, "realm", HOST, 0);
    Edge.tells(tells, "walk", refused, 3, "walk", RD, 5, 3, 0);
    Edge.tells(tells, "walk, NONE", refused, -1, "walk", RD, 4096, 3, 0);
    Edge.tells(tells, "context", refused, 100, "context", REC, 0);
    Edge.tells(tells, "context, NONE", refused, -1, "context", RD, 0);
    Edge.tells(tells, "measured, none such", refused, 0, "measured", RD, 5, 0);
    Edge.tells(tells, "count", refused, Scene.SIZE, "count", 0);
    Edge.tells(tells, "count, NONE", refused, -1, "count", 11);
    Edge.tells(tells, "astray", refused, 0, "astray");
    Edge.tells(tells, "status", refused, 1, "status");
    Edge.test(tells, "none of them makes it other than 0", () -> Scene.running()
        .tells(-1, "granule", -1, 0).tells(-1, "realm", -1, 0).tells(-1, "walk", -1, 0, 0, 0)
        .tells(-1, "context", -1, 0).tells(0, "measured", -1, 0, 0).tells(-1, "count", -1).tells(0, "status"));
    Edge.done(tells, "load, done", refused, 0, "load", HOST, 0);
    Edge.refused(tells, "load, refused", Scene::running, 2, "load", RD, 0);
  }
}
