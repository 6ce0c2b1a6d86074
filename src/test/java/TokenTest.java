/** Promises 30 to 32: MEASUREMENTS and tokens, against the Java library's SHA-256. */
final class TokenTest {
  private static final int RD = Scene.RD;
  private static final int REC = Scene.REC;
  private static final int MIN = Integer.MIN_VALUE;
  private static final int MAX = Integer.MAX_VALUE;
  private static final int[] X = {100, 101, 102, 103, 104, 105, 106, 107};

  public static void main(String[] args) {
    wholeRim();
    measure();
    extend();
    attest();
    attestElsewhere();
    Due.end("TokenTest");
  }

  private static void wholeRim() {
    GranuleHall h = Scene.furnished().object;
    int[] words = new int[32];
    for (int i = 0; i < 32; i++) {
      words[i] = 500 + i;
    }
    int[] rim = Sha.of(1, Scene.SIZE);
    rim = Sha.extended(rim, Sha.words(3, 5, 1));
    rim = Sha.extended(rim, Sha.words(3, 6, 1));
    rim = Sha.extended(rim, Sha.words(2, 5), Sha.of(words));
    rim = Sha.extended(rim, Sha.words(4, 0, 1), X);
    Due.words("9, 14, 15: the RIM", rim, Scene.measurement(h, RD, 0));
    for (int i = 1; i <= 4; i++) {
      Due.words("6: MEASUREMENT " + i, new int[8], Scene.measurement(h, RD, i));
    }
    h.activate(RD);
    Due.words("7: activate() leaves it", rim, Scene.measurement(h, RD, 0));
  }

  private static void measure() {
    GranuleHall h = Scene.running().object;
    for (int bad : new int[] {-1, 5, MIN, MAX}) {
      Due.done("30: measure(" + bad + ")", h, 1, h.measure(bad));
    }
    Due.is("30: FAULTS", 4, h.count(10));
    Due.words("30: registers stay", X, Scene.registers(h, REC));
    Due.done("30: measure(0)", h, 0, h.measure(0));
    Due.words("30: X0 .. X7", Scene.measurement(h, RD, 0), Scene.registers(h, REC));
    h.extend(4);
    Due.done("30: measure(4)", h, 0, h.measure(4));
    Due.words("30: X0 .. X7", Scene.measurement(h, RD, 4), Scene.registers(h, REC));
    h.move(0, 1);
    Due.no("30: a copy", h.measured(RD, 4, 0) == 1);
    Due.done("30: measure(3)", h, 0, h.measure(3));
    Due.words("30: X0 .. X7", new int[8], Scene.registers(h, REC));
  }

  private static void extend() {
    GranuleHall h = Scene.running().object;
    int[] rim = Scene.measurement(h, RD, 0);
    for (int bad : new int[] {-1, 0, 5, MIN, MAX}) {
      Due.done("31: extend(" + bad + ")", h, 1, h.extend(bad));
    }
    Due.is("31: FAULTS", 5, h.count(10));
    Due.done("31: extend(1)", h, 0, h.extend(1));
    int[] one = Sha.extended(new int[8], X);
    Due.words("31: once", one, Scene.measurement(h, RD, 1));
    h.move(3, -9);
    Due.done("31: extend(1) again", h, 0, h.extend(1));
    one = Sha.extended(one, Sha.words(100, 101, 102, -9, 104, 105, 106, 107));
    Due.words("31: twice", one, Scene.measurement(h, RD, 1));
    Due.done("31: extend(4)", h, 0, h.extend(4));
    Due.words("31: the second stays", new int[8], Scene.measurement(h, RD, 2));
    Due.words("31: the RIM stays", rim, Scene.measurement(h, RD, 0));
    Due.is("31: registers stay", -9, h.context(REC, 3));
  }

  private static int[] others(GranuleHall h) {
    return Sha.join(Scene.measurement(h, RD, 1), Scene.measurement(h, RD, 2), Scene.measurement(h, RD, 3),
        Scene.measurement(h, RD, 4));
  }

  private static int[] token(GranuleHall h, int[] registers) {
    int[] words = Sha.join(Sha.words(0x544f4b31), registers, Scene.measurement(h, RD, 0), Sha.of(others(h)));
    return Sha.join(words, java.util.Arrays.copyOf(Sha.of(words), 7));
  }

  private static void attest() {
    GranuleHall h = Scene.running().object;
    h.extend(1);
    h.extend(1);
    h.extend(3);
    h.move(0, -77);
    int[] registers = Scene.registers(h, REC);
    int[] want = token(h, registers);
    Due.done("32: attest(5)", h, 0, h.attest(5));
    Due.words("32: registers stay", registers, Scene.registers(h, REC));
    int[] got = new int[32];
    for (int i = 0; i < 32; i++) {
      h.fetch(7, 5, i);
      got[i] = h.context(REC, 7);
    }
    Due.words("32: the token", want, got);
    Due.is("32: RUNNING still", REC, h.count(7));
  }

  private static void attestElsewhere() {
    GranuleHall h = Scene.running().object;
    h.map(RD, 2050, Scene.HOST);
    for (int bad : new int[] {-1, 2048, 2050, 4095, 4096, MIN, MAX}) {
      Due.done("32: attest(" + bad + ")", h, 1, h.attest(bad));
    }
    Due.is("32: nothing goes to the host", 0, h.load(Scene.HOST, 0));
    Due.done("32: EMPTY", h, 1, h.attest(4));
    Due.is("32: FAULTS", 8, h.count(10));
    Due.done("32: RAM, UNASSIGNED", h, 2, h.attest(6));
    Due.words("32: ABORT of a store", Scene.page(5, 6, 1), Scene.loaded(h, Scene.RUN));
  }
}
