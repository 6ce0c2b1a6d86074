/** Promises 6 to 10: REALMS and their RECS, as they come and go. */
final class RealmTest {
  public static void main(String[] args) {
    create();
    activate();
    destroy();
    rec();
    end();
    Due.end("RealmTest");
  }

  private static void create() {
    GranuleHall h = Scene.delegated().object;
    Due.refused("6: no such RD", h, h.create(-1, 1), 1);
    Due.refused("6: no such RD", h, h.create(Scene.SIZE, 1), 1);
    Due.refused("6: no such RTT", h, h.create(0, -1), 1);
    Due.refused("6: no such RTT", h, h.create(0, Scene.SIZE), 1);
    Due.refused("6: the same twice", h, h.create(0, 0), 1);
    Due.refused("6: the same twice, UNDELEGATED", h, h.create(30, 30), 1);
    Due.refused("6: RD is UNDELEGATED", h, h.create(30, 1), 2);
    Due.refused("6: RTT is UNDELEGATED", h, h.create(0, 30), 2);
    Due.is("6: nothing was created", 0, h.count(8));
    Due.done("6: create(7, 3)", h, h.create(7, 3));
    Due.is("6: RD", 2, h.granule(7, 0));
    Due.is("6: RTT", 4, h.granule(3, 0));
    Due.is("6: NEW", 0, h.realm(7, 0));
    Due.is("6: root", 3, h.realm(7, 1));
    for (int page = 0; page < 4096; page += 512) {
      Due.is("6: LEVEL of " + page, 0, h.walk(7, page, 3, 0));
      Due.is("6: UNASSIGNED at " + page, 0, h.walk(7, page + 511, 3, 1));
      Due.is("6: EMPTY at " + page, 0, h.walk(7, page, 3, 2));
    }
    Due.refused("6: RD is taken", h, h.create(7, 4), 2);
    Due.refused("6: RTT is taken", h, h.create(4, 3), 2);
    Due.done("6: a second REALM", h, h.create(4, 5));
    Due.is("6: two REALMS", 2, h.count(8));
    Due.words("6: its RIM", Sha.of(1, Scene.SIZE), Scene.measurement(h, 7, 0));
    Due.words("6: the second's RIM", Sha.of(1, Scene.SIZE), Scene.measurement(h, 4, 0));
    GranuleHall small = new GranuleHall(16);
    small.delegate(14);
    small.delegate(15);
    small.create(15, 14);
    Due.words("6: the RIM of 16 GRANULES", Sha.of(1, 16), Scene.measurement(small, 15, 0));
  }

  private static void activate() {
    GranuleHall h = Scene.created().object;
    Due.refused("7: no such GRANULE", h, h.activate(-1), 1);
    Due.refused("7: no such GRANULE", h, h.activate(Scene.SIZE), 1);
    Due.refused("7: a root RTT", h, h.activate(Scene.ROOT), 2);
    Due.refused("7: a DELEGATED one", h, h.activate(Scene.FREE), 2);
    Due.refused("7: an UNDELEGATED one", h, h.activate(Scene.RUN), 2);
    Due.done("7: activate", h, h.activate(Scene.RD));
    Due.is("7: ACTIVE", 1, h.realm(Scene.RD, 0));
    Due.refused("7: it is ACTIVE", h, h.activate(Scene.RD), 3);
    GranuleHall off = Scene.off().object;
    Due.refused("7: it is OFF", off, off.activate(Scene.RD), 3);
  }

  private static void destroy() {
    GranuleHall h = Scene.created().object;
    Due.refused("8: no such GRANULE", h, h.destroy(-1), 1);
    Due.refused("8: no such GRANULE", h, h.destroy(Scene.SIZE), 1);
    Due.refused("8: a root RTT", h, h.destroy(Scene.ROOT), 2);
    h.rec(Scene.REC, Scene.RD, Scene.PARAMS);
    Due.refused("8: it has a REC", h, h.destroy(Scene.RD), 3);
    h.end(Scene.REC);
    h.table(Scene.RD, Scene.T1, 3584, 1);
    Due.refused("8: the root's last ENTRY is a TABLE", h, h.destroy(Scene.RD), 3);
    h.untable(Scene.RD, 3584, 1);
    h.ripas(Scene.RD, 0);
    h.activate(Scene.RD);
    Due.done("8: an ACTIVE one, with RAM", h, h.destroy(Scene.RD));
    Due.is("8: RD is DELEGATED", 1, h.granule(Scene.RD, 0));
    Due.is("8: RTT is DELEGATED", 1, h.granule(Scene.ROOT, 0));
    Due.is("8: no REALM is left", -1, h.realm(Scene.RD, 0));
    Due.is("8: no RD is told of the RTT", -1, h.granule(Scene.ROOT, 1));
    Due.is("8: no LEVEL is told of the RTT", -1, h.granule(Scene.ROOT, 2));
    Due.is("8: no measurement is left", 0, h.measured(Scene.RD, 0, 0));
    Due.refused("8: destroyed already", h, h.destroy(Scene.RD), 2);
    h.create(Scene.RD, Scene.ROOT);
    Due.is("8: a new REALM there is NEW", 0, h.realm(Scene.RD, 0));
    Due.is("8: and has no RAM", 0, h.realm(Scene.RD, 5));
    Due.is("8: and no RECS that came", 0, h.realm(Scene.RD, 6));
  }

  private static void rec() {
    GranuleHall h = Scene.created().object;
    for (int i = 0; i < 8; i++) {
      h.store(Scene.PARAMS, i, -5 * i);
    }
    for (int bad : new int[] {-1, Scene.SIZE}) {
      Due.refused("9: no such rec", h, h.rec(bad, Scene.RD, Scene.PARAMS), 1);
      Due.refused("9: no such rd", h, h.rec(Scene.REC, bad, Scene.PARAMS), 1);
      Due.refused("9: no such params", h, h.rec(Scene.REC, Scene.RD, bad), 1);
    }
    Due.refused("9: 1 ahead of 2", h, h.rec(Scene.RUN, Scene.ROOT, -1), 1);
    Due.refused("9: rec is UNDELEGATED", h, h.rec(Scene.RUN, Scene.RD, Scene.PARAMS), 2);
    Due.refused("9: rd is no RD", h, h.rec(Scene.REC, Scene.ROOT, Scene.PARAMS), 2);
    Due.refused("9: params is DELEGATED", h, h.rec(Scene.REC, Scene.RD, Scene.FREE), 2);
    Due.refused("9: rec is params", h, h.rec(Scene.REC, Scene.RD, Scene.REC), 2);

    int[] rim = Scene.measurement(h, Scene.RD, 0);
    int[] x = {0, -5, -10, -15, -20, -25, -30, -35};
    Due.done("9: the first", h, 0, h.rec(Scene.REC, Scene.RD, Scene.PARAMS));
    Due.is("9: STATE", 3, h.granule(Scene.REC, 0));
    Due.words("9: registers", x, Scene.registers(h, Scene.REC));
    Due.is("9: not RUNNABLE", 0, h.context(Scene.REC, 8));
    rim = Sha.extended(rim, Sha.words(4, 0, 0), x);
    Due.words("9: RIM", rim, Scene.measurement(h, Scene.RD, 0));

    h.store(Scene.PARAMS, 8, -7);
    Due.done("9: the second", h, 1, h.rec(10, Scene.RD, Scene.PARAMS));
    Due.is("9: RUNNABLE counts 1", 1, h.context(10, 8));
    rim = Sha.extended(rim, Sha.words(4, 1, 1), x);
    Due.words("9: RIM again", rim, Scene.measurement(h, Scene.RD, 0));
    Due.is("9: params keeps its words", -5, h.load(Scene.PARAMS, 1));

    h.activate(Scene.RD);
    Due.refused("9: ACTIVE", h, h.rec(11, Scene.RD, Scene.PARAMS), 3);
    Due.refused("9: 2 ahead of 3", h, h.rec(11, Scene.RD, Scene.FREE), 2);
    Due.words("9: a refused one leaves the RIM", rim, Scene.measurement(h, Scene.RD, 0));
    GranuleHall off = Scene.off().object;
    Due.refused("9: OFF", off, off.rec(11, Scene.RD, Scene.PARAMS), 3);
  }

  private static void end() {
    GranuleHall h = Scene.created().object;
    h.rec(9, Scene.RD, Scene.PARAMS);
    h.rec(10, Scene.RD, Scene.PARAMS);
    h.rec(11, Scene.RD, Scene.PARAMS);
    Due.refused("10: no such GRANULE", h, h.end(-1), 1);
    Due.refused("10: no such GRANULE", h, h.end(Scene.SIZE), 1);
    Due.refused("10: an RD", h, h.end(Scene.RD), 2);
    Due.refused("10: a DELEGATED one", h, h.end(Scene.FREE), 2);
    Due.done("10: end(10)", h, h.end(10));
    Due.is("10: DELEGATED", 1, h.granule(10, 0));
    Due.is("10: no context", -1, h.context(10, 0));
    Due.is("10: two are left", 2, h.realm(Scene.RD, 2));
    Due.is("10: three came", 3, h.realm(Scene.RD, 6));
    Due.is("10: the last keeps its number", 2, h.granule(11, 2));
    Due.refused("10: ended already", h, h.end(10), 2);
    Due.is("10: the next has a number of its own", 3, h.rec(10, Scene.RD, Scene.PARAMS));

    GranuleHall run = Scene.running().object;
    Due.refused("10: RUNNING", run, run.end(Scene.REC), 4);
    run.ask(0, 1, 0);
    Due.done("10: READY, with a PENDING", run, run.end(Scene.REC));
    Due.refused("10: what was PENDING is gone", run, run.change(Scene.REC), 2);
  }
}
