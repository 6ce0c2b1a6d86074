import java.util.Arrays;

/** The edges of MEASUREMENTS in the document's terms, and of promises 30 to 32: measure, extend, attest. */
final class MeasurementEdgesTest {
  private static final int RD = Scene.RD;
  private static final int REC = Scene.REC;
  private static final int RUN = Scene.RUN;
  private static final int SOURCE = Scene.SOURCE;
  private static final int PARAMS = Scene.PARAMS;
  private static final int[] X = {100, 101, 102, 103, 104, 105, 106, 107};

  public static void main(String[] args) {
    cases();
    Edge.run("MeasurementEdgesTest");
  }

  static void cases() {
    Edge.section(Edge.TERMS);
    digest();
    created();
    extendedByData();
    extendedByRipas();
    extendedByRec();
    othersAre0();
    Edge.section(30);
    measure();
    Edge.section(31);
    extend();
    Edge.section(32);
    attest();
    token();
  }

  private static int[] measurement(Hall h, int rd, int i) {
    int[] words = new int[8];
    for (int k = 0; k < 8; k++) {
      words[k] = h.ask("measured", rd, i, k);
    }
    return words;
  }

  private static int[] registers(Hall h) {
    int[] words = new int[8];
    for (int k = 0; k < 8; k++) {
      words[k] = h.ask("context", REC, k);
    }
    return words;
  }

  private static void digest() {
    // by sha256sum, so that not all rests on one library
    int[] of32 = {
      0xaa5399af, 0xcc194378, 0xc1b0295b, 0x1d7049bb, 0xf361cbdd, 0xc65db198, 0x4531396e, 0x27e20090
    };
    Edge.test("SHA-256 (FIPS 180-4) of WORDS, four bytes each, the highest first.", "of 1, 32, by another tool", () -> {
      Hall h = new Hall(32).with("delegate", 0).with("delegate", 1).with("create", 0, 1);
      Due.words("RIM", of32, measurement(h, 0, 0));
    });
    Edge.test("SHA-256 (FIPS 180-4) of WORDS, four bytes each, the highest first.", "WORDS below 0, and a whole block",
        () -> {
      Hall h = Scene.running();
      int[] x = {Edge.MIN, Edge.MAX, -1, 0, 1, 0x01020304, 0xff00ff00, 0x00ff00ff};
      for (int k = 0; k < 8; k++) {
        h.with("move", k, x[k]);
      }
      h.done(0, "extend", 2);
      Due.words("16 words", Sha.extended(new int[8], x), measurement(h, RD, 2));
    });
  }

  private static void created() {
    String quote = "As a REALM is created its RIM is the digest of 2 words: 1, n.";
    int[][] sizes = {{16, 16}, {96, 96}, {15, 32}, {97, 32}, {0, 32}, {Edge.MIN, 32}};
    for (int[] size : sizes) {
      Edge.test(quote, "of so many GRANULES: " + size[0], () -> {
        Hall h = new Hall(size[0]).with("delegate", 0).with("delegate", 1).with("create", 0, 1);
        Due.words("RIM", Sha.of(1, size[1]), measurement(h, 0, 0));
      });
    }
    Edge.test(quote, "of a REALM where another was", () -> {
      Hall h = Scene.created().with("ripas", RD, 0).with("destroy", RD).with("create", RD, Scene.ROOT);
      Due.words("RIM", Sha.of(1, Scene.SIZE), measurement(h, RD, 0));
    });
    Edge.test(quote, "of a second REALM, and the first keeps its own", () -> {
      Hall h = Scene.created().with("ripas", RD, 0);
      int[] first = measurement(h, RD, 0);
      h.with("create", Scene.RD2, Scene.ROOT2);
      Due.words("RIM of the second", Sha.of(1, Scene.SIZE), measurement(h, Scene.RD2, 0));
      Due.words("RIM of the first", first, measurement(h, RD, 0));
    });
  }

  private static void extendedByData() {
    String quote = "by data(): 2, the PAGE, and the digest of the 32 WORDS (8 words)";
    for (int page : new int[] {0, 7, 2040, 2047}) {
      Edge.test(quote, "PAGE " + page, () -> {
        Hall h = Scene.ends().with("ripas", RD, page);
        int[] words = new int[32];
        for (int i = 0; i < 32; i++) {
          words[i] = Edge.MIN + i * 0x10203;
          h.with("store", SOURCE, i, words[i]);
        }
        int[] rim = measurement(h, RD, 0);
        h.yes("data", RD, Scene.FREE, page, SOURCE);
        Due.words("RIM", Sha.extended(rim, Sha.words(2, page), Sha.of(words)), measurement(h, RD, 0));
      });
    }
    Edge.test(quote, "all WORDS are 0", () -> {
      Hall h = Scene.tabled().with("ripas", RD, 0);
      int[] rim = measurement(h, RD, 0);
      h.yes("data", RD, Scene.FREE, 0, SOURCE);
      Due.words("RIM", Sha.extended(rim, Sha.words(2, 0), Sha.of(new int[32])), measurement(h, RD, 0));
    });
  }

  private static void extendedByRipas() {
    String quote = "by ripas(): 3, the first PAGE of the ENTRY, its SPAN";
    int[][] pages = {
      {0, 0, 1}, {7, 7, 1}, {8, 8, 8}, {15, 8, 8}, {64, 64, 64}, {127, 64, 64}, {512, 512, 512}, {1023, 512, 512},
      {2047, 1536, 512}
    };
    for (int[] p : pages) {
      Edge.test(quote, "PAGE " + p[0], () -> {
        Hall h = Scene.tabled();
        int[] rim = measurement(h, RD, 0);
        h.done(p[2], "ripas", RD, p[0]);
        Due.words("RIM", Sha.extended(rim, Sha.words(3, p[1], p[2])), measurement(h, RD, 0));
      });
    }
  }

  private static void extendedByRec() {
    String quote = "by rec(): 4, its number, whether it is RUNNABLE, the 8 registers";
    int[][] words8 = {{0, 0}, {1, 1}, {2, 1}, {-1, 1}, {Edge.MIN, 1}};
    for (int[] w : words8) {
      Edge.test(quote, "word 8 is " + w[0], () -> {
        Hall h = Scene.created();
        int[] x = {0, -1, Edge.MIN, Edge.MAX, 4, 5, 6, 7};
        for (int i = 0; i < 8; i++) {
          h.with("store", PARAMS, i, x[i]);
        }
        h.with("store", PARAMS, 8, w[0]);
        int[] rim = measurement(h, RD, 0);
        h.done(0, "rec", REC, RD, PARAMS);
        rim = Sha.extended(rim, Sha.words(4, 0, w[1]), x);
        Due.words("RIM", rim, measurement(h, RD, 0));
        h.with("end", REC).done(1, "rec", REC, RD, PARAMS);
        Due.words("RIM by the second", Sha.extended(rim, Sha.words(4, 1, w[1]), x), measurement(h, RD, 0));
      });
    }
    String extended = "It is EXTENDED by words w: the digest of itself (8 words) and these";
    Edge.test(extended, "not by other calls", () -> {
      Hall h = Scene.furnished();
      int[] rim = measurement(h, RD, 0);
      h.with("unknown", RD, Scene.FREE, 6).with("undata", RD, 6).with("map", RD, 2048, Scene.HOST);
      h.with("unmap", RD, 2048).with("untable", RD, 2048, 3).with("fold", RD, 2048, 2);
      h.with("table", RD, Scene.FREE, 512, 1).with("activate", RD).with("enter", REC, RUN).with("extend", 1);
      h.with("ask", 7, 8, 1).with("change", REC).with("end", REC);
      Due.words("RIM", rim, measurement(h, RD, 0));
    });
  }

  private static void othersAre0() {
    for (int i = 1; i <= 4; i++) {
      int m = i;
      Edge.test("MEASUREMENTS 1 .. 4 are 0 at first.", "MEASUREMENT " + m, () -> {
        Due.words("of a REALM", new int[8], measurement(Scene.active(), RD, m));
        Hall again = Scene.created().with("store", PARAMS, 8, 1).with("rec", REC, RD, PARAMS).with("activate", RD);
        again.with("enter", REC, RUN).with("extend", m).with("yield1").with("end", REC).with("destroy", RD);
        again.with("create", RD, Scene.ROOT);
        Due.words("of a REALM where another was", new int[8], measurement(again, RD, m));
      });
    }
  }

  private static void measure() {
    String quote = "X0 .. X7 become MEASUREMENT i (0 .. 4; others: FAULT).";
    Edge.actFaults(quote, Scene::running, new int[] {-1, 5, Edge.MIN, Edge.MAX}, "measure", 0, 0);
    for (int i = 0; i <= 4; i++) {
      int m = i;
      Edge.test(quote, "MEASUREMENT " + m, () -> {
        Hall h = Scene.running();
        for (int k = 1; k <= 4; k++) {
          h.with("move", 0, k).with("extend", k);
        }
        h.done(0, "measure", m);
        Due.words("X0 .. X7", measurement(h, RD, m), registers(h));
      });
    }
    Edge.refused(quote, "none is RUNNING", Scene::active, 4, "measure", 0);
    Edge.refused(quote, "none is RUNNING, no such MEASUREMENT", Scene::active, 4, "measure", 5);
  }

  private static void extend() {
    String quote = "MEASUREMENT i (1 .. 4; others: FAULT) is EXTENDED by X0 .. X7.";
    Edge.actFaults(quote, Scene::running, new int[] {-1, 0, 5, Edge.MIN, Edge.MAX}, "extend", 0, 1);
    for (int i = 1; i <= 4; i++) {
      int m = i;
      Edge.test(quote, "MEASUREMENT " + m + ", twice, and no other", () -> {
        Hall h = Scene.running();
        int[] rim = measurement(h, RD, 0);
        h.done(0, "extend", m).done(0, "extend", m);
        Due.words("it", Sha.extended(Sha.extended(new int[8], X), X), measurement(h, RD, m));
        for (int other = 0; other <= 4; other++) {
          if (other != m) {
            Due.words("other " + other, other == 0 ? rim : new int[8], measurement(h, RD, other));
          }
        }
        Due.words("X0 .. X7", X, registers(h));
      });
    }
    Edge.refused(quote, "none is RUNNING", Scene::active, 4, "extend", 1);
    Edge.refused(quote, "none is RUNNING, no such MEASUREMENT", Scene::active, 4, "extend", 0);
  }

  private static void attest() {
    String quote = "A token goes to a PROTECTED PAGE (REACHED; FAULT: no such PAGE)";
    Edge.actFaults(quote, Scene::running, Edge.NOT_PROTECTED, "attest", 0, 5);
    Edge.test(quote, "a PAGE that is mapped", () -> Scene.running().with("map", RD, 2048, Scene.HOST)
        .faults("attest", 2048));
    Edge.refused(quote, "none is RUNNING", Scene::active, 4, "attest", 5);
    Edge.refused(quote, "none is RUNNING, no such PAGE", Scene::active, 4, "attest", -1);
    for (int page : new int[] {0, 1, 8, 15, 64, 127, 512, 1023}) {
      Edge.faults(quote, "EMPTY: PAGE " + page, Scene::reaching, "attest", page);
    }
    for (int page : new int[] {2, 4, 5, 16, 23, 24, 31, 128, 191, 192, 1024, 1535, 1536, 2047}) {
      Edge.test(quote, "ABORT: PAGE " + page, () -> Scene.reaching()
          .exits(RUN, new int[] {5, page, 1}, "attest", page));
    }
    Edge.done(quote, "ASSIGNED, RAM", Scene::reaching, 0, "attest", 3);
    Edge.test(quote, "the first PAGE, and the last that is PROTECTED", () -> Scene.ends()
        .with("ripas", RD, 0).with("ripas", RD, 2047).with("unknown", RD, 20, 0).with("unknown", RD, 21, 2047)
        .with("store", PARAMS, 8, 1).with("rec", REC, RD, PARAMS).with("activate", RD).with("enter", REC, RUN)
        .done(0, "attest", 0).done(0, "attest", 2047));
  }

  private static void token() {
    Edge.test("WORDS 0: 0x544f4b31, 1 .. 8: X0 .. X7, 9 .. 16: the RIM", "all words, and the last of each part", () -> {
      Hall h = Scene.running().with("extend", 1).with("extend", 4).with("move", 7, Edge.MIN).with("extend", 3);
      int[] others = {};
      for (int i = 1; i <= 4; i++) {
        others = Sha.join(others, measurement(h, RD, i));
      }
      int[] body = Sha.join(Sha.words(0x544f4b31), registers(h), measurement(h, RD, 0), Sha.of(others));
      int[] want = Sha.join(body, Arrays.copyOf(Sha.of(body), 7));
      int[] registers = registers(h);
      h.done(0, "attest", 5);
      Due.words("X0 .. X7 stay", registers, registers(h));
      int[] got = new int[32];
      for (int word = 0; word < 32; word++) {
        h.with("fetch", 6, 5, word);
        got[word] = h.ask("context", REC, 6);
      }
      Due.words("token", want, got);
      Due.is("a whole page", 32, want.length);
    });
    Edge.test("17 .. 24: the digest of MEASUREMENTS 1 .. 4 (32 words)", "all of them are 0", () -> {
      Hall h = Scene.running().done(0, "attest", 5);
      int[] zeros = Sha.of(new int[32]);
      for (int word = 17; word <= 24; word++) {
        h.with("fetch", 6, 5, word);
        Due.is("word " + word, zeros[word - 17], h.ask("context", REC, 6));
      }
    });
  }
}
