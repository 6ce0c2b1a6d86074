import java.util.function.Supplier;

/** The edges of promises 11 to 13: table, untable, fold. */
final class TableEdgesTest {
  private static final int RD = Scene.RD;
  private static final int FREE = Scene.FREE;
  private static final int HOST = Scene.HOST;
  private static final int DELEGATED = 1;
  private static final int IS_RD = 2;
  private static final int[] NO_LEVELS = {-1, 0, 4, Edge.MIN, Edge.MAX};
  /** PAGES that are no multiple of the SPAN of the LEVEL above, by LEVEL. */
  private static final int[][] NO_MULTIPLES = {
    {}, {1, 8, 64, 256, 511, 513, 4095, 3583, 2049}, {1, 8, 32, 63, 65, 4095, 2047, 2049}, {1, 4, 7, 9, 4095, 2049}
  };
  private static final int[] NO_PAGES = {-1, -8, -64, -512, 4096, 4608, Edge.MIN, Edge.MAX};

  public static void main(String[] args) {
    cases();
    Edge.run("TableEdgesTest");
  }

  static void cases() {
    Edge.section(11);
    table();
    tableInherits();
    tableRefused();
    Edge.section(12);
    untable();
    untableRefused();
    Edge.section(13);
    fold();
    foldRefused();
  }

  private static void table() {
    String quote =
        "An RTT of LEVEL 1 .. 3 where the ENTRY of the LEVEL above is UNASSIGNED: rtt, DELEGATED, becomes it";
    for (int page = 0; page < 4096; page += 512) {
      int first = page;
      Edge.test(quote, "LEVEL 1 at PAGE " + first, () -> Scene.created().yes("table", RD, FREE, first, 1)
          .tells(1, "walk", RD, first, 3, 0).tells(1, "walk", RD, first + 511, 3, 0).tells(2, "walk", RD, first, 0, 1)
          .tells(FREE, "walk", RD, first, 0, 3).tells(4, "granule", FREE, 0).tells(RD, "granule", FREE, 1)
          .tells(1, "granule", FREE, 2).tells(2, "realm", RD, 3));
    }
    Edge.test(quote, "LEVEL 2 at the last ENTRY of LEVEL 1", () -> Scene.tabled().yes("table", RD, FREE, 448, 2)
        .tells(1, "walk", RD, 447, 3, 0).tells(2, "walk", RD, 448, 3, 0).tells(2, "walk", RD, 511, 3, 0)
        .tells(0, "walk", RD, 512, 3, 0).tells(2, "granule", FREE, 2));
    Edge.test(quote, "LEVEL 3 at the last ENTRY of LEVEL 2", () -> Scene.tabled().yes("table", RD, FREE, 56, 3)
        .tells(2, "walk", RD, 55, 3, 0).tells(3, "walk", RD, 56, 3, 0).tells(3, "walk", RD, 63, 3, 0)
        .tells(1, "walk", RD, 64, 3, 0).tells(3, "granule", FREE, 2));
    Edge.test(quote, "all LEVELS at the last PAGES", () -> Scene.ends().tells(3, "walk", RD, 4095, 3, 0)
        .tells(3, "walk", RD, 2047, 3, 0).tells(13, "realm", RD, 3).tells(0, "astray"));
    Edge.yes(quote, "of an ACTIVE REALM", Scene::active, "table", RD, FREE, 8, 3);
    Edge.yes(quote, "of a REALM that is OFF", Scene::off, "table", RD, FREE, 8, 3);
    Edge.test(quote, "as many as there is room for", () -> {
      Hall h = new Hall(16);
      for (int g = 0; g < 16; g++) {
        h.with("delegate", g);
      }
      h.with("create", 0, 1).with("table", 0, 2, 0, 1);
      for (int k = 0; k < 8; k++) {
        h.yes("table", 0, 3 + k, 64 * k, 2);
      }
      h.tells(10, "realm", 0, 3).tells(2, "walk", 0, 511, 3, 0).tells(0, "astray");
    });
  }

  private static Hall levelOf(int ripas) {
    Hall h = Scene.created();
    if (ripas == 1) {
      h.with("ripas", RD, 512);
    } else if (ripas == 2) {
      h.with("table", RD, FREE, 512, 1).with("untable", RD, 512, 1);
    }
    return h;
  }

  private static void tableInherits() {
    String quote = "its ENTRIES are UNASSIGNED, their RIPAS that of the ENTRY, which is a TABLE then";
    for (int r = 0; r < 3; r++) {
      int ripas = r;
      Edge.test(quote, "RIPAS " + ripas + " of all 8, on to LEVEL 3", () -> {
        Hall h = levelOf(ripas).yes("table", RD, FREE, 512, 1);
        for (int k = 0; k < 8; k++) {
          h.tells(ripas, "walk", RD, 512 + 64 * k, 3, 2).tells(0, "walk", RD, 512 + 64 * k, 3, 1);
        }
        h.yes("table", RD, 10, 960, 2).yes("table", RD, 11, 1016, 3);
        for (int k = 0; k < 8; k++) {
          h.tells(ripas, "walk", RD, 1016 + k, 3, 2).tells(0, "walk", RD, 1016 + k, 3, 1);
        }
        h.tells(0, "walk", RD, 512, 0, 2).tells(0, "walk", RD, 960, 1, 2).tells(0, "walk", RD, 1016, 2, 2);
        h.tells(ripas == 1 ? 512 : 0, "realm", RD, 5);
      });
    }
    Edge.test(quote, "nothing of what was there under another RTT", () -> Scene.furnished().with("undata", RD, 5)
        .with("untable", RD, 0, 3).with("table", RD, Scene.T3, 8, 3).tells(0, "walk", RD, 13, 3, 2)
        .tells(0, "walk", RD, 14, 3, 2).tells(0, "walk", RD, 13, 3, 1));
  }

  private static void boundsOf(String quote, String call, int[] good) {
    int page = good.length - 2;
    int level = good.length - 1;
    Edge.outOfBounds(quote, Scene::tabled, NO_LEVELS, call, level, good);
    Edge.outOfBounds(quote, Scene::tabled, NO_PAGES, call, page, good);
    for (int k = 1; k <= 3; k++) {
      int[] atLevel = good.clone();
      atLevel[level] = k;
      Edge.outOfBounds(quote, Scene::tabled, NO_MULTIPLES[k], call, page, atLevel);
    }
    int[] root = good.clone();
    root[page] = 0;
    Edge.outOfBounds(quote, Scene::tabled, NO_LEVELS, call, level, root);
  }

  private static void tableRefused() {
    String quote = "1 (also: PAGE no multiple of the SPAN of the LEVEL above); 2; 5.";
    Edge.noGranule(quote, Scene::furnished, "table", 0, RD, FREE, 8, 3);
    Edge.noGranule(quote, Scene::furnished, "table", 1, RD, FREE, 8, 3);
    boundsOf(quote, "table", new int[] {RD, FREE, 512, 1});
    Edge.otherStates(quote, Scene::furnished, IS_RD, "table", 0, RD, FREE, 8, 3);
    Edge.otherStates(quote, Scene::furnished, DELEGATED, "table", 1, RD, FREE, 8, 3);
    int[][] walks = {{0, 1}, {0, 2}, {0, 3}, {512, 2}, {512, 3}, {64, 3}, {2048, 1}, {2048, 3}, {4088, 3}, {4032, 2}};
    for (int[] w : walks) {
      Edge.refused(quote, "PAGE " + w[0] + ", LEVEL " + w[1] + ": 5", Scene::tabled, 5, "table", RD, FREE, w[0], w[1]);
    }
  }

  private static void untable() {
    String quote = "the ENTRY above is UNASSIGNED, DESTROYED (if PROTECTED)";
    int[][] firsts = {{0, 2}, {1536, 2}, {2048, 0}, {3584, 0}};
    for (int[] f : firsts) {
      Edge.test(quote, "LEVEL 1 at PAGE " + f[0], () -> Scene.created().with("table", RD, FREE, f[0], 1)
          .yes("untable", RD, f[0], 1).tells(0, "walk", RD, f[0], 3, 0).tells(0, "walk", RD, f[0], 3, 1)
          .tells(f[1], "walk", RD, f[0], 3, 2).tells(f[1], "walk", RD, f[0] + 511, 3, 2)
          .tells(-1, "walk", RD, f[0], 3, 3));
    }
    Edge.test(quote, "LEVEL 3 at the last PAGES that are PROTECTED, and at the last", () -> Scene.ends()
        .yes("untable", RD, 2040, 3).tells(2, "walk", RD, 2047, 3, 2).tells(2, "walk", RD, 2047, 3, 0)
        .yes("untable", RD, 4088, 3).tells(0, "walk", RD, 4095, 3, 2).tells(2, "walk", RD, 4095, 3, 0));
    Edge.test(quote, "all were RAM", () -> Scene.created().with("ripas", RD, 0).with("table", RD, FREE, 0, 1)
        .yes("untable", RD, 0, 1).tells(2, "walk", RD, 0, 3, 2).tells(0, "realm", RD, 5));
    Edge.test(quote, "unlike ones", () -> Scene.tabled().with("ripas", RD, 7).yes("untable", RD, 0, 3)
        .tells(2, "walk", RD, 0, 3, 2).tells(2, "walk", RD, 7, 3, 2));
    String becomes = "An RTT whose ENTRIES are all UNASSIGNED becomes DELEGATED";
    Edge.test(becomes, "LEVEL 3, 2, 1", () -> Scene.tabled().yes("untable", RD, 0, 3).tells(1, "granule", Scene.T3, 0)
        .yes("untable", RD, 0, 2).tells(1, "granule", Scene.T2, 0).yes("untable", RD, 0, 1)
        .tells(1, "granule", Scene.T1, 0).tells(-1, "granule", Scene.T1, 1).tells(-1, "granule", Scene.T1, 2)
        .tells(4, "realm", RD, 3).tells(0, "astray"));
    Edge.yes(becomes, "of an ACTIVE REALM", Scene::active, "untable", RD, 2048, 3);
    Edge.yes(becomes, "of a REALM that is OFF", Scene::off, "untable", RD, 2048, 3);
  }

  /** What makes an RTT stay: ENTRIES that are not UNASSIGNED, the first and the last. */
  private static void staysFor(String quote, String call) {
    for (int page : new int[] {0, 7}) {
      Supplier<Hall> given = () -> Scene.tabled().with("unknown", RD, FREE, page);
      Edge.refused(quote, "ASSIGNED at PAGE " + page, given, 5, call, RD, 0, 3);
      Supplier<Hall> mapped = () -> Scene.tabled().with("map", RD, 2048 + page, HOST);
      Edge.refused(quote, "ASSIGNED at PAGE " + (2048 + page), mapped, 5, call, RD, 2048, 3);
    }
    Edge.refused(quote, "a TABLE at its first ENTRY, LEVEL 2", Scene::tabled, 5, call, RD, 0, 2);
    Edge.refused(quote, "a TABLE at its first ENTRY, LEVEL 1", Scene::tabled, 5, call, RD, 2048, 1);
    Edge.refused(quote, "a TABLE at its last ENTRY, LEVEL 2", Scene::ends, 5, call, RD, 1984, 2);
    Edge.refused(quote, "a TABLE at its last ENTRY, LEVEL 1", Scene::ends, 5, call, RD, 1536, 1);
    int[][] none = {{512, 1}, {512, 2}, {512, 3}, {64, 2}, {64, 3}, {8, 3}, {3584, 1}, {4088, 3}};
    for (int[] w : none) {
      Edge.refused(quote, "no TABLE: PAGE " + w[0] + ", LEVEL " + w[1], Scene::tabled, 5, call, RD, w[0], w[1]);
    }
  }

  private static void untableRefused() {
    String quote = "1 as of table(); 2; 5: there is no TABLE, or one of its ENTRIES is not UNASSIGNED.";
    Edge.noGranule(quote, Scene::furnished, "untable", 0, RD, 2048, 3);
    boundsOf(quote, "untable", new int[] {RD, 2048, 1});
    Edge.otherStates(quote, Scene::furnished, IS_RD, "untable", 0, RD, 2048, 3);
    staysFor(quote, "untable");
    Edge.refused(quote, "taken already", () -> Scene.tabled().with("untable", RD, 0, 3), 5, "untable", RD, 0, 3);
  }

  private static void fold() {
    String quote = "Likewise, if all have one RIPAS: the ENTRY above has that.";
    for (int r = 0; r < 3; r++) {
      int ripas = r;
      Edge.test(quote, "all are " + ripas, () -> levelOf(ripas).with("table", RD, FREE, 512, 1).yes("fold", RD, 512, 1)
          .tells(0, "walk", RD, 512, 3, 0).tells(0, "walk", RD, 512, 3, 1).tells(ripas, "walk", RD, 512, 3, 2)
          .tells(ripas, "walk", RD, 1023, 3, 2).tells(-1, "walk", RD, 512, 3, 3).tells(1, "granule", FREE, 0)
          .tells(ripas == 1 ? 512 : 0, "realm", RD, 5).tells(1, "realm", RD, 3));
    }
    Edge.test(quote, "RAM page by page", () -> {
      Hall h = Scene.tabled();
      for (int page = 0; page < 8; page++) {
        h.with("ripas", RD, page);
      }
      h.yes("fold", RD, 0, 3).tells(8, "realm", RD, 5).tells(1, "walk", RD, 7, 3, 2).tells(2, "walk", RD, 7, 3, 0);
    });
    Edge.test(quote, "not PROTECTED", () -> Scene.ends().yes("fold", RD, 2048, 3).tells(0, "walk", RD, 2048, 3, 2)
        .yes("fold", RD, 4088, 3).tells(0, "walk", RD, 4095, 3, 2).tells(2, "walk", RD, 4095, 3, 0));
    Edge.test(quote, "LEVEL 3, 2, 1", () -> Scene.tabled().yes("fold", RD, 0, 3).yes("fold", RD, 0, 2)
        .yes("fold", RD, 0, 1).tells(0, "walk", RD, 0, 3, 0).tells(0, "walk", RD, 0, 3, 2).tells(4, "realm", RD, 3));
    Edge.yes(quote, "of an ACTIVE REALM", Scene::active, "fold", RD, 2048, 3);
    Edge.yes(quote, "of a REALM that is OFF", Scene::off, "fold", RD, 2048, 3);
  }

  private static void foldRefused() {
    String quote = "1, 2, 5 likewise (also: unlike ones).";
    Edge.noGranule(quote, Scene::furnished, "fold", 0, RD, 2048, 3);
    boundsOf(quote, "fold", new int[] {RD, 2048, 1});
    Edge.otherStates(quote, Scene::furnished, IS_RD, "fold", 0, RD, 2048, 3);
    staysFor(quote, "fold");
    Edge.refused(quote, "folded already", () -> Scene.tabled().with("fold", RD, 0, 3), 5, "fold", RD, 0, 3);
    for (int page = 0; page < 8; page++) {
      int unlike = page;
      Edge.refused(quote, "PAGE " + page + " is RAM, the others EMPTY", () -> Scene.tabled().with("ripas", RD, unlike),
          5, "fold", RD, 0, 3);
      Edge.refused(quote, "PAGE " + page + " is EMPTY, the others RAM", () -> {
        Hall h = Scene.tabled();
        for (int p = 0; p < 8; p++) {
          if (p != unlike) {
            h.with("ripas", RD, p);
          }
        }
        return h;
      }, 5, "fold", RD, 0, 3);
    }
    Edge.refused(quote, "the last is DESTROYED, the others RAM", () -> Scene.created().with("ripas", RD, 0)
        .with("table", RD, FREE, 0, 1).with("table", RD, 10, 448, 2).with("untable", RD, 448, 2), 5, "fold", RD, 0, 1);
    Edge.refused(quote, "the first is DESTROYED, the others EMPTY", () -> Scene.created()
        .with("table", RD, FREE, 0, 1).with("table", RD, 10, 0, 2).with("untable", RD, 0, 2), 5, "fold", RD, 0, 1);
  }
}
