/** Promises 20 and 21: RECS that are entered with what is PENDING, and a CHANGE that goes on. */
final class EnterTest {
  private static final int RD = Scene.RD;
  private static final int REC = Scene.REC;
  private static final int RUN = Scene.RUN;

  public static void main(String[] args) {
    enterRefused();
    enter();
    enterAfterCall();
    enterAfterLostCall();
    enterAfterChange();
    changeRefused();
    changeOverLevels();
    changeOfAssigned();
    Due.end("EnterTest");
  }

  private static void enterRefused() {
    GranuleHall h = Scene.furnished().object;
    for (int bad : new int[] {-1, 48, Integer.MIN_VALUE, Integer.MAX_VALUE}) {
      Due.refused("20: rec " + bad, h, h.enter(bad, RUN), 1);
      Due.refused("20: run " + bad, h, h.enter(REC, bad), 1);
    }
    Due.refused("20: an RD", h, h.enter(RD, RUN), 2);
    Due.refused("20: run is DELEGATED", h, h.enter(REC, Scene.FREE), 2);
    Due.refused("20: run is the REC", h, h.enter(REC, REC), 2);
    Due.refused("20: NEW", h, h.enter(REC, RUN), 3);
    h.store(Scene.PARAMS, 8, 0);
    h.rec(10, RD, Scene.PARAMS);
    Due.refused("20: 3 ahead of 4", h, h.enter(10, RUN), 3);
    h.activate(RD);
    Due.refused("20: not RUNNABLE", h, h.enter(10, RUN), 4);
    Due.is("20: a refused one does not count", 0, h.context(REC, 13));
    Due.yes("20: RUNNABLE", h.enter(REC, RUN));
    Due.refused("20: it is RUNNING", h, h.enter(REC, RUN), 4);
    Due.refused("20: another is RUNNING", h, h.enter(10, RUN), 4);
    Due.refused("20: 2 ahead of 4", h, h.enter(REC, Scene.FREE), 2);
    h.off();
    Due.refused("20: OFF", h, h.enter(REC, RUN), 3);
  }

  private static void enter() {
    GranuleHall h = Scene.active().object;
    int[] run = new int[32];
    for (int i = 0; i < 32; i++) {
      run[i] = 7000 + i;
      h.store(RUN, i, run[i]);
    }
    int[] before = Scene.registers(h, REC);
    Due.done("20: enter", h, h.enter(REC, RUN));
    Due.is("20: RUNNING", 1, h.context(REC, 9));
    Due.is("20: count(7)", REC, h.count(7));
    Due.is("20: entered once", 1, h.context(REC, 13));
    Due.words("20: registers stay", before, Scene.registers(h, REC));
    Due.words("20: RUN stays", run, Scene.loaded(h, RUN));
    h.yield1();
    Due.is("20: READY", 0, h.context(REC, 9));
    Due.done("20: enter again, with another RUN", h, h.enter(REC, 42));
    Due.is("20: entered twice", 2, h.context(REC, 13));
    h.yield1();
    Due.is("20: the new RUN has the REASON", 1, h.load(42, 0));
  }

  private static void enterAfterCall() {
    GranuleHall h = Scene.running().object;
    h.call(5);
    for (int i = 0; i < 32; i++) {
      h.store(42, i, 900 + i);
    }
    Due.done("20: with a CALL", h, h.enter(REC, 42));
    Due.is("20: nothing is PENDING", 0, h.context(REC, 10));
    Due.is("20: X0 is 0", 0, h.context(REC, 0));
    Due.is("20: X1 stays", 101, h.context(REC, 1));
    for (int i = 0; i < 32; i++) {
      h.fetch(2, 5, i);
      Due.is("20: WORD " + i, i >= 1 && i <= 8 ? 900 + i : 500 + i, h.context(REC, 2));
    }
    h.yield1();
    h.enter(REC, RUN);
    h.fetch(2, 5, 1);
    Due.is("20: a CALL is answered once", 901, h.context(REC, 2));
  }

  private static void enterAfterLostCall() {
    GranuleHall h = Scene.running().object;
    h.call(5);
    h.undata(RD, 5);
    Due.done("20: the PAGE is UNASSIGNED", h, h.enter(REC, RUN));
    Due.is("20: X0 is 1", 1, h.context(REC, 0));
    Due.is("20: nothing is PENDING", 0, h.context(REC, 10));
    h.yield1();

    GranuleHall again = Scene.running().object;
    again.call(5);
    again.undata(RD, 5);
    again.unknown(RD, Scene.DATA, 5);
    again.enter(REC, RUN);
    Due.is("20: ASSIGNED, DESTROYED: X0 is 1", 1, again.context(REC, 0));

    GranuleHall other = Scene.running().object;
    other.call(5);
    other.undata(RD, 5);
    other.untable(RD, 0, 3);
    other.enter(REC, RUN);
    Due.is("20: the RTT is gone: X0 is 1", 1, other.context(REC, 0));
  }

  private static void enterAfterChange() {
    GranuleHall h = Scene.running().object;
    h.ask(0, 2, 1);
    Due.done("20: a CHANGE not begun", h, h.enter(REC, RUN));
    Due.is("20: X0", 1, h.context(REC, 0));
    Due.is("20: X1", 0, h.context(REC, 1));
    Due.is("20: X2 stays", 102, h.context(REC, 2));
    Due.is("20: nothing is PENDING", 0, h.context(REC, 10));
    Due.refused("21: nothing is PENDING", h, h.change(REC), 4);
    h.ask(0, 2, 1);
    h.change(REC);
    h.enter(REC, RUN);
    Due.is("20: half: X0", 1, h.context(REC, 0));
    Due.is("20: half: X1", 1, h.context(REC, 1));
    h.ask(0, 2, 0);
    h.change(REC);
    h.change(REC);
    h.enter(REC, RUN);
    Due.is("20: whole: X0", 0, h.context(REC, 0));
    Due.is("20: whole: X1", 2, h.context(REC, 1));
  }

  private static void changeRefused() {
    GranuleHall h = Scene.running().object;
    for (int bad : new int[] {-1, 48, Integer.MIN_VALUE, Integer.MAX_VALUE}) {
      Due.refused("21: change(" + bad + ")", h, h.change(bad), 1);
    }
    Due.refused("21: an RD", h, h.change(RD), 2);
    Due.refused("21: DELEGATED", h, h.change(Scene.FREE), 2);
    Due.refused("21: RUNNING", h, h.change(REC), 4);
    h.call(5);
    Due.refused("21: a CALL", h, h.change(REC), 4);
    h.enter(REC, RUN);
    h.ask(9, 24, 1);
    Due.refused("21: the ENTRY begins ahead of NEXT", h, h.change(REC), 5);
    h.table(RD, 20, 8, 3);
    Due.done("21: PAGE 9", h, 10, h.change(REC));
    h.enter(REC, RUN);
    h.ask(16, 23, 1);
    Due.refused("21: the ENTRY ends behind to", h, h.change(REC), 5);
    Due.is("21: NEXT stays", 16, h.context(REC, 11));
    Due.is("21: EMPTY still", 0, h.walk(RD, 16, 3, 2));
    h.enter(REC, RUN);
    h.ask(0, 1, 1);
    Due.done("21: the last one", h, 1, h.change(REC));
    Due.refused("21: NEXT is to", h, h.change(REC), 4);
    Due.is("21: it is PENDING still", 2, h.context(REC, 10));
  }

  private static void changeOverLevels() {
    GranuleHall h = Scene.running().object;
    h.ask(6, 2048, 1);
    int[] nexts = {7, 8, 16, 24, 32, 40, 48, 56, 64, 128, 192, 256, 320, 384, 448, 512, 1024, 1536, 2048};
    for (int next : nexts) {
      Due.done("21: NEXT", h, next, h.change(REC));
      Due.is("21: context(11)", next, h.context(REC, 11));
      Due.is("21: context(12)", 2048, h.context(REC, 12));
      Due.is("21: RAM ahead of NEXT", 1, h.walk(RD, next - 1, 3, 2));
    }
    Due.refused("21: at its end", h, h.change(REC), 4);
    Due.is("21: PAGES that are RAM", 2048 - 6 + 1, h.realm(RD, 5));
    Due.is("21: the first beyond stays", 0, h.walk(RD, 2048, 3, 2));
  }

  private static void changeOfAssigned() {
    GranuleHall h = Scene.running().object;
    h.ask(5, 6, 0);
    Due.done("21: an ASSIGNED PAGE", h, 6, h.change(REC));
    Due.is("21: ASSIGNED still", 1, h.walk(RD, 5, 3, 1));
    Due.is("21: EMPTY", 0, h.walk(RD, 5, 3, 2));
    h.enter(REC, RUN);
    Due.is("21: it FAULTS", 1, h.fetch(1, 5, 0));
    h.ask(5, 6, 1);
    h.change(REC);
    h.enter(REC, RUN);
    Due.is("21: RAM again", 0, h.fetch(1, 5, 2));
    Due.is("21: its WORDS are there still", 502, h.context(REC, 1));
    h.undata(RD, 5);
    h.ask(5, 6, 1);
    Due.done("21: from DESTROYED", h, 6, h.change(REC));
    Due.is("21: RAM from DESTROYED", 1, h.walk(RD, 5, 3, 2));
  }
}
