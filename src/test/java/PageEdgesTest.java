/** The edges of promises 14 to 19: ripas, data, unknown, undata, map, unmap. */
final class PageEdgesTest {
  private static final int RD = Scene.RD;
  private static final int REC = Scene.REC;
  private static final int RUN = Scene.RUN;
  private static final int FREE = Scene.FREE;
  private static final int FREE2 = Scene.FREE2;
  private static final int HOST = Scene.HOST;
  private static final int SOURCE = Scene.SOURCE;
  private static final int DATA = Scene.DATA;
  private static final int UNDELEGATED = 0;
  private static final int DELEGATED = 1;
  private static final int IS_RD = 2;

  public static void main(String[] args) {
    cases();
    Edge.run("PageEdgesTest");
  }

  static void cases() {
    Edge.section(14);
    ripas();
    Edge.section(15);
    data();
    dataRefused();
    Edge.section(16);
    unknown();
    unknownRefused();
    Edge.section(17);
    undata();
    Edge.section(18);
    map();
    Edge.section(19);
    unmap();
  }

  private static void ripas() {
    String quote =
        "In a NEW REALM the LEAF of a PROTECTED PAGE, UNASSIGNED, becomes RAM: its SPAN; the RIM is EXTENDED.";
    int[][] spans = {
      {0, 1}, {7, 1}, {8, 8}, {63, 8}, {64, 64}, {511, 64}, {512, 512}, {1535, 512}, {1536, 512}, {2047, 512}
    };
    for (int[] s : spans) {
      Edge.test(quote, "PAGE " + s[0], () -> {
        int first = s[0] / s[1] * s[1];
        Hall h = Scene.tabled().done(s[1], "ripas", RD, s[0]).tells(s[1], "realm", RD, 5);
        h.tells(1, "walk", RD, first, 3, 2).tells(1, "walk", RD, first + s[1] - 1, 3, 2);
        h.tells(0, "walk", RD, s[0], 3, 1).tells(0, "walk", RD, first + s[1], 3, 2);
        if (first > 0) {
          h.tells(0, "walk", RD, first - 1, 3, 2);
        }
      });
    }
    Edge.test(quote, "the last PAGE of LEVEL 3", () -> Scene.ends().done(1, "ripas", RD, 2047)
        .tells(1, "walk", RD, 2047, 3, 2).tells(0, "walk", RD, 2046, 3, 2).tells(0, "walk", RD, 2048, 3, 2));
    Edge.test(quote, "all that is PROTECTED", () -> Scene.created().done(512, "ripas", RD, 0)
        .done(512, "ripas", RD, 512).done(512, "ripas", RD, 1024).done(512, "ripas", RD, 1536)
        .tells(2048, "realm", RD, 5));
    Edge.test(quote, "RAM already: the RIM is EXTENDED again", () -> {
      Hall h = Scene.created().done(512, "ripas", RD, 0).done(512, "ripas", RD, 511).tells(512, "realm", RD, 5);
      int[] rim = Sha.extended(Sha.extended(Sha.of(1, Scene.SIZE), Sha.words(3, 0, 512)), Sha.words(3, 0, 512));
      h.tells(rim[0], "measured", RD, 0, 0).tells(rim[7], "measured", RD, 0, 7);
    });
    Edge.test(quote, "from DESTROYED", () -> Scene.furnished().with("undata", RD, 5).done(1, "ripas", RD, 5)
        .tells(1, "walk", RD, 5, 3, 2));
    String refused = "1, 2, 3, 5.";
    Edge.noGranule(refused, Scene::furnished, "ripas", 0, RD, 0);
    Edge.outOfBounds(refused, Scene::ends, Edge.NOT_PROTECTED, "ripas", 1, RD, 0);
    Edge.otherStates(refused, Scene::furnished, IS_RD, "ripas", 0, RD, 0);
    Edge.refused(refused, "ACTIVE", Scene::active, 3, "ripas", RD, 0);
    Edge.refused(refused, "OFF", Scene::off, 3, "ripas", RD, 0);
    Edge.refused(refused, "ASSIGNED, RAM", Scene::furnished, 5, "ripas", RD, 5);
    Edge.refused(refused, "ASSIGNED, EMPTY", () -> Scene.furnished().with("unknown", RD, FREE, 0), 5, "ripas", RD, 0);
    Edge.refused(refused, "ASSIGNED, DESTROYED", () -> Scene.furnished().with("undata", RD, 5)
        .with("unknown", RD, FREE, 5), 5, "ripas", RD, 5);
  }

  private static void data() {
    String quote = "the LEAF of a PROTECTED PAGE, of LEVEL 3, UNASSIGNED, RAM, is ASSIGNED to it";
    for (int page : new int[] {0, 7, 2040, 2047}) {
      Edge.test(quote, "PAGE " + page, () -> Scene.ends().with("ripas", RD, page).yes("data", RD, FREE, page, SOURCE)
          .tells(5, "granule", FREE, 0).tells(RD, "granule", FREE, 1).tells(page, "granule", FREE, 2)
          .tells(1, "walk", RD, page, 3, 1).tells(1, "walk", RD, page, 3, 2).tells(FREE, "walk", RD, page, 3, 3)
          .tells(1, "realm", RD, 4).tells(1, "realm", RD, 5).tells(0, "astray"));
    }
    Edge.test("becomes DATA with the WORDS of source, UNDELEGATED", "all 32, and source stays its own", () -> {
      Hall h = Scene.active().with("store", SOURCE, 0, -1).with("store", SOURCE, 31, -1).with("enter", REC, RUN);
      for (int word = 0; word < 32; word++) {
        h.with("fetch", 2, 5, word);
        Due.is("word " + word, 500 + word, h.ask("context", REC, 2));
      }
      h.tells(0, "granule", SOURCE, 0).with("put", 0, 5, 1).done(501, "load", SOURCE, 1);
    });
    Edge.test("In a NEW REALM: data, DELEGATED", "one source for two", () -> Scene.furnished()
        .yes("data", RD, FREE, 6, SOURCE).tells(2, "realm", RD, 4));
    Edge.test("the RIM is EXTENDED", "by the PAGE and its WORDS", () -> {
      Hall h = Scene.tabled().with("ripas", RD, 7).yes("data", RD, FREE, 7, SOURCE);
      int[] rim = Sha.extended(Sha.of(1, Scene.SIZE), Sha.words(3, 7, 1));
      rim = Sha.extended(rim, Sha.words(2, 7), Sha.of(new int[32]));
      h.tells(rim[0], "measured", RD, 0, 0).tells(rim[7], "measured", RD, 0, 7);
    });
    Edge.test(quote, "all 8 of an RTT", () -> {
      Hall h = Scene.tabled();
      for (int page = 0; page < 8; page++) {
        h.with("ripas", RD, page).yes("data", RD, 8 + page, page, SOURCE);
      }
      h.tells(8, "realm", RD, 4).tells(8, "realm", RD, 5).refused(5, "data", RD, FREE, 7, SOURCE);
    });
  }

  private static Hall wide() {
    return Scene.tabled().with("ripas", RD, 8).with("ripas", RD, 64).with("ripas", RD, 512);
  }

  private static void dataRefused() {
    String quote = "1; 2 (rd, data, source: any); 3, 5.";
    Edge.noGranule(quote, Scene::furnished, "data", 0, RD, FREE, 6, SOURCE);
    Edge.noGranule(quote, Scene::furnished, "data", 1, RD, FREE, 6, SOURCE);
    Edge.noGranule(quote, Scene::furnished, "data", 3, RD, FREE, 6, SOURCE);
    Edge.outOfBounds(quote, Scene::ends, Edge.NOT_PROTECTED, "data", 2, RD, FREE, 6, SOURCE);
    Edge.otherStates(quote, Scene::furnished, IS_RD, "data", 0, RD, FREE, 6, SOURCE);
    Edge.otherStates(quote, Scene::furnished, DELEGATED, "data", 1, RD, FREE, 6, SOURCE);
    Edge.otherStates(quote, Scene::furnished, UNDELEGATED, "data", 3, RD, FREE, 6, SOURCE);
    Edge.refused(quote, "data is source", Scene::furnished, 2, "data", RD, FREE, 6, FREE);
    Edge.refused(quote, "ACTIVE", Scene::active, 3, "data", RD, FREE, 6, SOURCE);
    Edge.refused(quote, "OFF", Scene::off, 3, "data", RD, FREE, 6, SOURCE);
    Edge.refused(quote, "EMPTY", Scene::furnished, 5, "data", RD, FREE, 4, SOURCE);
    Edge.refused(quote, "DESTROYED", () -> Scene.furnished().with("undata", RD, 5), 5, "data", RD, FREE, 5, SOURCE);
    Edge.refused(quote, "ASSIGNED, RAM", Scene::furnished, 5, "data", RD, FREE, 5, HOST);
    Edge.refused(quote, "RAM of LEVEL 2", PageEdgesTest::wide, 5, "data", RD, FREE, 8, SOURCE);
    Edge.refused(quote, "RAM of LEVEL 1", PageEdgesTest::wide, 5, "data", RD, FREE, 64, SOURCE);
    Edge.refused(quote, "RAM of LEVEL 0", PageEdgesTest::wide, 5, "data", RD, FREE, 512, SOURCE);
  }

  private static void unknown() {
    String quote = "the LEAF, of LEVEL 3, UNASSIGNED, is ASSIGNED to it (its RIPAS stays)";
    for (int page : new int[] {0, 7, 2040, 2047}) {
      Edge.test(quote, "PAGE " + page, () -> Scene.ends().yes("unknown", RD, FREE, page).tells(5, "granule", FREE, 0)
          .tells(RD, "granule", FREE, 1).tells(page, "granule", FREE, 2).tells(1, "walk", RD, page, 3, 1)
          .tells(FREE, "walk", RD, page, 3, 3).tells(1, "realm", RD, 4).tells(0, "astray"));
    }
    Edge.test(quote, "EMPTY stays", () -> Scene.tabled().yes("unknown", RD, FREE, 0).tells(0, "walk", RD, 0, 3, 2)
        .tells(0, "realm", RD, 5));
    Edge.test(quote, "RAM stays", () -> Scene.furnished().yes("unknown", RD, FREE, 6).tells(1, "walk", RD, 6, 3, 2)
        .tells(2, "realm", RD, 5));
    Edge.test(quote, "DESTROYED stays", () -> Scene.furnished().with("undata", RD, 5).yes("unknown", RD, FREE, 5)
        .tells(2, "walk", RD, 5, 3, 2));
    String how = "In a REALM that is not OFF: data, DELEGATED, becomes DATA (0)";
    Edge.yes(how, "NEW", Scene::furnished, "unknown", RD, FREE, 6);
    Edge.yes(how, "ACTIVE", Scene::active, "unknown", RD, FREE, 6);
    Edge.yes(how, "RUNNING", Scene::running, "unknown", RD, FREE, 6);
    Edge.test(how, "all WORDS are 0", () -> {
      Hall h = Scene.running().with("delegate", SOURCE).yes("unknown", RD, SOURCE, 6);
      for (int word = 0; word < 32; word++) {
        h.with("fetch", 2, 6, word);
        Due.is("word " + word, 0, h.ask("context", REC, 2));
      }
    });
    Edge.test(how, "the RIM stays", () -> {
      Hall h = Scene.furnished();
      int before = h.ask("measured", RD, 0, 3);
      h.yes("unknown", RD, FREE, 6).tells(before, "measured", RD, 0, 3);
    });
  }

  private static void unknownRefused() {
    String quote = "1; 2 (rd, data); 3, 5.";
    Edge.noGranule(quote, Scene::furnished, "unknown", 0, RD, FREE, 6);
    Edge.noGranule(quote, Scene::furnished, "unknown", 1, RD, FREE, 6);
    Edge.outOfBounds(quote, Scene::ends, Edge.NOT_PROTECTED, "unknown", 2, RD, FREE, 6);
    Edge.otherStates(quote, Scene::furnished, IS_RD, "unknown", 0, RD, FREE, 6);
    Edge.otherStates(quote, Scene::furnished, DELEGATED, "unknown", 1, RD, FREE, 6);
    Edge.refused(quote, "OFF", Scene::off, 3, "unknown", RD, FREE, 6);
    Edge.refused(quote, "ASSIGNED, RAM", Scene::furnished, 5, "unknown", RD, FREE, 5);
    Edge.refused(quote, "ASSIGNED, EMPTY", () -> Scene.tabled().with("unknown", RD, FREE, 0), 5, "unknown", RD, FREE2,
        0);
    Edge.refused(quote, "LEVEL 2", PageEdgesTest::wide, 5, "unknown", RD, FREE, 8);
    Edge.refused(quote, "LEVEL 1", PageEdgesTest::wide, 5, "unknown", RD, FREE, 64);
    Edge.refused(quote, "LEVEL 0", PageEdgesTest::wide, 5, "unknown", RD, FREE, 512);
  }

  private static void undata() {
    String quote =
        "The LEAF of a PROTECTED PAGE, ASSIGNED, becomes UNASSIGNED, from RAM DESTROYED; its GRANULE DELEGATED";
    Edge.test(quote, "from RAM", () -> Scene.furnished().done(DATA, "undata", RD, 5).tells(2, "walk", RD, 5, 3, 2)
        .tells(0, "walk", RD, 5, 3, 1).tells(-1, "walk", RD, 5, 3, 3).tells(1, "granule", DATA, 0)
        .tells(-1, "granule", DATA, 1).tells(-1, "granule", DATA, 2).tells(0, "realm", RD, 4).tells(1, "realm", RD, 5));
    Edge.test(quote, "from EMPTY", () -> Scene.tabled().with("unknown", RD, FREE, 0).done(FREE, "undata", RD, 0)
        .tells(0, "walk", RD, 0, 3, 2).tells(0, "walk", RD, 0, 3, 1));
    Edge.test(quote, "from DESTROYED", () -> Scene.furnished().with("undata", RD, 5).with("unknown", RD, FREE, 5)
        .done(FREE, "undata", RD, 5).tells(2, "walk", RD, 5, 3, 2));
    Edge.test(quote, "GRANULE 0, and the PAGE 2047", () -> new Hall(16).with("delegate", 0).with("delegate", 1)
        .with("delegate", 2).with("delegate", 3).with("delegate", 4).with("delegate", 5).with("create", 1, 2)
        .with("table", 1, 3, 1536, 1).with("table", 1, 4, 1984, 2).with("table", 1, 5, 2040, 3)
        .with("unknown", 1, 0, 2047).done(0, "undata", 1, 2047).tells(1, "granule", 0, 0));
    Edge.done(quote, "of an ACTIVE REALM", Scene::active, DATA, "undata", RD, 5);
    Edge.done(quote, "while a REC is RUNNING", Scene::running, DATA, "undata", RD, 5);
    Edge.done(quote, "of a REALM that is OFF", Scene::off, DATA, "undata", RD, 5);
    String refused = "1, 2, 5.";
    Edge.noGranule(refused, Scene::furnished, "undata", 0, RD, 5);
    Edge.outOfBounds(refused, Scene::furnished, Edge.NOT_PROTECTED, "undata", 1, RD, 5);
    Edge.refused(refused, "a PAGE that is mapped", () -> Scene.furnished().with("map", RD, 2048, HOST), 1, "undata", RD,
        2048);
    Edge.otherStates(refused, Scene::furnished, IS_RD, "undata", 0, RD, 5);
    Edge.refused(refused, "UNASSIGNED, EMPTY", Scene::furnished, 5, "undata", RD, 4);
    Edge.refused(refused, "UNASSIGNED, RAM", Scene::furnished, 5, "undata", RD, 6);
    Edge.refused(refused, "LEVEL 2", Scene::furnished, 5, "undata", RD, 8);
    Edge.refused(refused, "LEVEL 0", Scene::furnished, 5, "undata", RD, 2047);
    Edge.refused(refused, "taken already", () -> Scene.furnished().with("undata", RD, 5), 5, "undata", RD, 5);
  }

  private static void map() {
    String quote =
        "The LEAF, of LEVEL 3, UNASSIGNED, of a PAGE that is not PROTECTED is ASSIGNED to a GRANULE (of any STATE).";
    for (int page : new int[] {2048, 2055, 4088, 4095}) {
      Edge.test(quote, "PAGE " + page, () -> Scene.ends().yes("map", RD, page, HOST).tells(1, "walk", RD, page, 3, 1)
          .tells(0, "walk", RD, page, 3, 2).tells(HOST, "walk", RD, page, 3, 3).tells(0, "granule", HOST, 0)
          .tells(-1, "granule", HOST, 1).tells(-1, "granule", HOST, 2).tells(0, "realm", RD, 4));
    }
    for (int state = 0; state < 6; state++) {
      int is = state;
      int g = Scene.OF_STATE[state];
      Edge.test(quote, "STATE " + is, () -> Scene.furnished().yes("map", RD, 2050, g).tells(g, "walk", RD, 2050, 3, 3)
          .tells(is, "granule", g, 0).tells(0, "astray"));
    }
    Edge.test(quote, "the first and the last GRANULE", () -> Scene.tabled().yes("map", RD, 2048, 0)
        .tells(0, "walk", RD, 2048, 3, 3).yes("map", RD, 2049, Scene.SIZE - 1)
        .tells(Scene.SIZE - 1, "walk", RD, 2049, 3, 3));
    Edge.test(quote, "the same at two PAGES", () -> Scene.tabled().yes("map", RD, 2048, HOST)
        .yes("map", RD, 2049, HOST).tells(HOST, "walk", RD, 2048, 3, 3).tells(HOST, "walk", RD, 2049, 3, 3));
    Edge.test(quote, "its WORDS stay", () -> Scene.tabled().with("store", HOST, 3, 7).yes("map", RD, 2048, HOST)
        .done(7, "load", HOST, 3));
    Edge.yes(quote, "of an ACTIVE REALM", Scene::active, "map", RD, 2048, HOST);
    Edge.yes(quote, "of a REALM that is OFF", Scene::off, "map", RD, 2048, HOST);
    String refused = "1, 2 (rd), 5.";
    Edge.noGranule(refused, Scene::furnished, "map", 0, RD, 2048, HOST);
    Edge.noGranule(refused, Scene::furnished, "map", 2, RD, 2048, HOST);
    Edge.outOfBounds(refused, Scene::ends, Edge.NOT_SHARED, "map", 1, RD, 2048, HOST);
    Edge.otherStates(refused, Scene::furnished, IS_RD, "map", 0, RD, 2048, HOST);
    Edge.refused(refused, "ASSIGNED", () -> Scene.tabled().with("map", RD, 2048, HOST), 5, "map", RD, 2048, RUN);
    Edge.refused(refused, "LEVEL 2", Scene::tabled, 5, "map", RD, 2056, HOST);
    Edge.refused(refused, "LEVEL 1", Scene::tabled, 5, "map", RD, 2112, HOST);
    Edge.refused(refused, "LEVEL 0", Scene::tabled, 5, "map", RD, 2560, HOST);
    Edge.refused(refused, "LEVEL 0, the last PAGE", Scene::tabled, 5, "map", RD, 4095, HOST);
  }

  private static void unmap() {
    String quote = "One that is ASSIGNED becomes UNASSIGNED: its GRANULE.";
    for (int page : new int[] {2048, 4095}) {
      Edge.test(quote, "PAGE " + page, () -> Scene.ends().with("map", RD, page, HOST).done(HOST, "unmap", RD, page)
          .tells(0, "walk", RD, page, 3, 1).tells(0, "walk", RD, page, 3, 2).tells(-1, "walk", RD, page, 3, 3)
          .yes("map", RD, page, FREE));
    }
    for (int state = 0; state < 6; state++) {
      int is = state;
      int g = Scene.OF_STATE[state];
      Edge.test(quote, "STATE " + is + " stays", () -> Scene.furnished().with("map", RD, 2050, g)
          .done(g, "unmap", RD, 2050).tells(is, "granule", g, 0));
    }
    Edge.test(quote, "its WORDS stay, and it stays at another PAGE", () -> Scene.tabled().with("map", RD, 2048, HOST)
        .with("map", RD, 2049, HOST).with("store", HOST, 3, 7).done(HOST, "unmap", RD, 2048).done(7, "load", HOST, 3)
        .tells(HOST, "walk", RD, 2049, 3, 3));
    Edge.test(quote, "GRANULE 0", () -> Scene.tabled().with("map", RD, 2048, 0).done(0, "unmap", RD, 2048));
    Edge.test(quote, "one that ended since", () -> Scene.furnished().with("map", RD, 2048, DATA).with("undata", RD, 5)
        .with("undelegate", DATA).done(DATA, "unmap", RD, 2048));
    Edge.done(quote, "of a REALM that is OFF", () -> Scene.off().with("map", RD, 2048, HOST), HOST, "unmap", RD, 2048);
    String refused = "1, 2, 5.";
    Edge.noGranule(refused, () -> Scene.furnished().with("map", RD, 2048, HOST), "unmap", 0, RD, 2048);
    Edge.outOfBounds(refused, Scene::furnished, Edge.NOT_SHARED, "unmap", 1, RD, 2048);
    Edge.refused(refused, "a PAGE of DATA", Scene::furnished, 1, "unmap", RD, 5);
    Edge.otherStates(refused, () -> Scene.furnished().with("map", RD, 2048, HOST), IS_RD, "unmap", 0, RD, 2048);
    Edge.refused(refused, "UNASSIGNED", Scene::tabled, 5, "unmap", RD, 2048);
    Edge.refused(refused, "LEVEL 2", Scene::tabled, 5, "unmap", RD, 2056);
    Edge.refused(refused, "LEVEL 0", Scene::tabled, 5, "unmap", RD, 4095);
    Edge.refused(refused, "unmapped already", () -> Scene.tabled().with("map", RD, 2048, HOST).with("unmap", RD, 2048),
        5, "unmap", RD, 2048);
  }
}
