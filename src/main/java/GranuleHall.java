import java.util.Arrays;

/**
 * A monitor that keeps realms apart from the host that schedules them: granules of memory that
 * change worlds, realms with their tables of pages, contexts that are entered and come out,
 * measurements and tokens. The words in capitals are those of the document.
 */
public final class GranuleHall {
    /** None, or refused. */
    public static final int NONE = -1;

    private static final int LEAST_GRANULES = 16;
    private static final int MOST_GRANULES = 96;
    private static final int USUAL_GRANULES = 32;
    private static final int WORDS = 32;
    private static final int REGISTERS = 8;
    private static final int ENTRIES = 8;
    private static final int PAGES = 4096;
    private static final int PROTECTED_PAGES = 2048;
    private static final int LAST_LEVEL = 3;
    private static final int MEASUREMENTS = 5;
    private static final int DIGEST_WORDS = 8;
    private static final int RUNNABLE_WORD = 8;
    private static final int MESSAGE_START = 1;
    private static final int MESSAGE_WORDS = 8;

    // STATES of a GRANULE
    private static final int UNDELEGATED = 0;
    private static final int DELEGATED = 1;
    private static final int RD = 2;
    private static final int REC = 3;
    private static final int RTT = 4;
    private static final int DATA = 5;

    // how a REALM is
    private static final int NEW = 0;
    private static final int ACTIVE = 1;
    private static final int OFF = 2;

    // ENTRIES
    private static final int UNASSIGNED = 0;
    private static final int ASSIGNED = 1;
    private static final int TABLE = 2;

    // RIPAS
    private static final int EMPTY = 0;
    private static final int RAM = 1;
    private static final int DESTROYED = 2;

    // what is PENDING
    private static final int NOTHING = 0;
    private static final int A_CALL = 1;
    private static final int A_CHANGE = 2;

    // STATUS: why a call was refused
    private static final int NO_SUCH = 1;
    private static final int WRONG_STATE = 2;
    private static final int WRONG_REALM = 3;
    private static final int WRONG_REC = 4;
    private static final int WRONG_WALK = 5;

    // what an act answers
    private static final int DONE = 0;
    private static final int FAULT = 1;
    private static final int EXITED = 2;

    // REASONS of an EXIT
    private static final int BY_YIELD = 1;
    private static final int BY_CALL = 2;
    private static final int BY_CHANGE = 3;
    private static final int BY_OFF = 4;
    private static final int BY_ABORT = 5;

    // what a MEASUREMENT is made for, its first word
    private static final int FOR_CREATE = 1;
    private static final int FOR_DATA = 2;
    private static final int FOR_RIPAS = 3;
    private static final int FOR_REC = 4;

    // where the parts of a token begin
    private static final int TOKEN_MAGIC = 0x544f4b31;
    private static final int TOKEN_REGISTERS = 1;
    private static final int TOKEN_RIM = 9;
    private static final int TOKEN_OTHERS = 17;
    private static final int TOKEN_SEAL = 25;

    private final Granule[] granules;
    private final Digest digest = new Digest();
    // the digest of a DATA's WORDS, made once so that data() makes nothing
    private final int[] content = new int[DIGEST_WORDS];
    // null while no REC is RUNNING
    private Rec running;
    private int status;
    private int exits;
    private int faults;

    public GranuleHall(int granules) {
        boolean fits = granules >= LEAST_GRANULES && granules <= MOST_GRANULES;
        int n = fits ? granules : USUAL_GRANULES;
        this.granules = new Granule[n];
        for (int i = 0; i < n; i++) {
            this.granules[i] = new Granule(i);
        }
    }

    // ---- the host

    public int load(int granule, int word) {
        Granule g = at(granule);
        if (g == null || !isWord(word)) {
            return none(NO_SUCH);
        }
        if (g.state != UNDELEGATED) {
            return none(WRONG_STATE);
        }
        return done(g.words[word]);
    }

    public boolean store(int granule, int word, int v) {
        Granule g = at(granule);
        if (g == null || !isWord(word)) {
            return no(NO_SUCH);
        }
        if (g.state != UNDELEGATED) {
            return no(WRONG_STATE);
        }
        g.words[word] = v;
        return yes();
    }

    public boolean delegate(int granule) {
        return hand(granule, UNDELEGATED, DELEGATED);
    }

    public boolean undelegate(int granule) {
        return hand(granule, DELEGATED, UNDELEGATED);
    }

    public boolean create(int rd, int rtt) {
        Granule home = at(rd);
        Granule root = at(rtt);
        if (home == null || root == null || rd == rtt) {
            return no(NO_SUCH);
        }
        if (home.state != DELEGATED || root.state != DELEGATED) {
            return no(WRONG_STATE);
        }
        Rtt table = new Rtt(root, 0, 0, EMPTY);
        Realm realm = new Realm(home, table);
        home.become(RD, realm, NONE);
        root.becomeTable(realm, table);
        digest.start();
        digest.take(FOR_CREATE);
        digest.take(granules.length);
        digest.finish(realm.rim(), 0, DIGEST_WORDS);
        return yes();
    }

    public boolean activate(int rd) {
        Granule home = at(rd);
        if (home == null) {
            return no(NO_SUCH);
        }
        Realm realm = home.ownRealm();
        if (realm == null) {
            return no(WRONG_STATE);
        }
        if (realm.state != NEW) {
            return no(WRONG_REALM);
        }
        realm.state = ACTIVE;
        return yes();
    }

    public boolean destroy(int rd) {
        Granule home = at(rd);
        if (home == null) {
            return no(NO_SUCH);
        }
        Realm realm = home.ownRealm();
        if (realm == null) {
            return no(WRONG_STATE);
        }
        if (realm.recs > 0 || !realm.root.isUnassigned()) {
            return no(WRONG_REALM);
        }
        realm.root.granule.become(DELEGATED, null, NONE);
        home.become(DELEGATED, null, NONE);
        return yes();
    }

    public int rec(int rec, int rd, int params) {
        Granule frame = at(rec);
        Granule home = at(rd);
        Granule source = at(params);
        if (frame == null || home == null || source == null) {
            return none(NO_SUCH);
        }
        Realm realm = home.ownRealm();
        if (realm == null || frame.state != DELEGATED || source.state != UNDELEGATED) {
            return none(WRONG_STATE);
        }
        if (realm.state != NEW) {
            return none(WRONG_REALM);
        }
        Rec made = new Rec(frame, realm, source.words[RUNNABLE_WORD] != 0);
        System.arraycopy(source.words, 0, made.registers, 0, REGISTERS);
        int number = realm.recsEver;
        frame.becomeRec(made, number);
        realm.recs++;
        realm.recsEver++;
        digest.startWith(realm.rim());
        digest.take(FOR_REC);
        digest.take(number);
        digest.take(bit(made.runnable));
        digest.takeRow(made.registers, REGISTERS);
        digest.finish(realm.rim(), 0, DIGEST_WORDS);
        return done(number);
    }

    public boolean end(int rec) {
        Granule g = at(rec);
        if (g == null) {
            return no(NO_SUCH);
        }
        Rec ending = g.rec;
        if (ending == null) {
            return no(WRONG_STATE);
        }
        if (ending == running) {
            return no(WRONG_REC);
        }
        ending.realm.recs--;
        g.become(DELEGATED, null, NONE);
        return yes();
    }

    public boolean table(int rd, int rtt, int page, int level) {
        Granule home = at(rd);
        Granule frame = at(rtt);
        if (home == null || frame == null || !isTablePlace(page, level)) {
            return no(NO_SUCH);
        }
        Realm realm = home.ownRealm();
        if (realm == null || frame.state != DELEGATED) {
            return no(WRONG_STATE);
        }
        Entry above = realm.entryAt(page, level - 1);
        if (above.level != level - 1 || !above.isUnassigned()) {
            return no(WRONG_WALK);
        }
        Rtt table = new Rtt(frame, level, page, above.ripas);
        frame.becomeTable(realm, table);
        above.lead(table);
        realm.rtts++;
        return yes();
    }

    public boolean untable(int rd, int page, int level) {
        return takeTable(rd, page, level, false);
    }

    public boolean fold(int rd, int page, int level) {
        return takeTable(rd, page, level, true);
    }

    public int ripas(int rd, int page) {
        Granule home = at(rd);
        if (home == null || !isProtected(page)) {
            return none(NO_SUCH);
        }
        Realm realm = home.ownRealm();
        if (realm == null) {
            return none(WRONG_STATE);
        }
        if (realm.state != NEW) {
            return none(WRONG_REALM);
        }
        Entry leaf = realm.leafOf(page);
        if (!leaf.isUnassigned()) {
            return none(WRONG_WALK);
        }
        leaf.ripas = RAM;
        int span = span(leaf.level);
        digest.startWith(realm.rim());
        digest.take(FOR_RIPAS);
        digest.take(leaf.first);
        digest.take(span);
        digest.finish(realm.rim(), 0, DIGEST_WORDS);
        return done(span);
    }

    public boolean data(int rd, int data, int page, int source) {
        Granule home = at(rd);
        Granule frame = at(data);
        Granule from = at(source);
        if (home == null || frame == null || from == null || !isProtected(page)) {
            return no(NO_SUCH);
        }
        Realm realm = home.ownRealm();
        if (realm == null || frame.state != DELEGATED || from.state != UNDELEGATED) {
            return no(WRONG_STATE);
        }
        if (realm.state != NEW) {
            return no(WRONG_REALM);
        }
        Entry leaf = realm.leafOf(page);
        if (!leaf.isFreePage() || leaf.ripas != RAM) {
            return no(WRONG_WALK);
        }
        giveData(realm, leaf, frame);
        System.arraycopy(from.words, 0, frame.words, 0, WORDS);
        digest.start();
        digest.takeRow(frame.words, WORDS);
        digest.finish(content, 0, DIGEST_WORDS);
        digest.startWith(realm.rim());
        digest.take(FOR_DATA);
        digest.take(page);
        digest.takeRow(content, DIGEST_WORDS);
        digest.finish(realm.rim(), 0, DIGEST_WORDS);
        return yes();
    }

    public boolean unknown(int rd, int data, int page) {
        Granule home = at(rd);
        Granule frame = at(data);
        if (home == null || frame == null || !isProtected(page)) {
            return no(NO_SUCH);
        }
        Realm realm = home.ownRealm();
        if (realm == null || frame.state != DELEGATED) {
            return no(WRONG_STATE);
        }
        if (realm.state == OFF) {
            return no(WRONG_REALM);
        }
        Entry leaf = realm.leafOf(page);
        if (!leaf.isFreePage()) {
            return no(WRONG_WALK);
        }
        giveData(realm, leaf, frame);
        return yes();
    }

    public int undata(int rd, int page) {
        Granule home = at(rd);
        if (home == null || !isProtected(page)) {
            return none(NO_SUCH);
        }
        Realm realm = home.ownRealm();
        if (realm == null) {
            return none(WRONG_STATE);
        }
        Entry leaf = realm.leafOf(page);
        Granule taken = leaf.granule;
        if (taken == null) {
            return none(WRONG_WALK);
        }
        leaf.clear(leaf.ripas == RAM ? DESTROYED : leaf.ripas);
        taken.become(DELEGATED, null, NONE);
        realm.datas--;
        return done(taken.number);
    }

    public boolean map(int rd, int page, int granule) {
        Granule home = at(rd);
        Granule shared = at(granule);
        if (home == null || shared == null || !isShared(page)) {
            return no(NO_SUCH);
        }
        Realm realm = home.ownRealm();
        if (realm == null) {
            return no(WRONG_STATE);
        }
        Entry leaf = realm.leafOf(page);
        if (!leaf.isFreePage()) {
            return no(WRONG_WALK);
        }
        leaf.granule = shared;
        return yes();
    }

    public int unmap(int rd, int page) {
        Granule home = at(rd);
        if (home == null || !isShared(page)) {
            return none(NO_SUCH);
        }
        Realm realm = home.ownRealm();
        if (realm == null) {
            return none(WRONG_STATE);
        }
        Entry leaf = realm.leafOf(page);
        Granule shared = leaf.granule;
        if (shared == null) {
            return none(WRONG_WALK);
        }
        leaf.clear(EMPTY);
        return done(shared.number);
    }

    public boolean enter(int rec, int run) {
        Granule g = at(rec);
        Granule place = at(run);
        if (g == null || place == null) {
            return no(NO_SUCH);
        }
        Rec entering = g.rec;
        if (entering == null || place.state != UNDELEGATED) {
            return no(WRONG_STATE);
        }
        if (entering.realm.state != ACTIVE) {
            return no(WRONG_REALM);
        }
        if (!entering.runnable || running != null) {
            return no(WRONG_REC);
        }
        entering.run = place;
        settle(entering, place);
        entering.entered++;
        running = entering;
        return yes();
    }

    public int change(int rec) {
        Granule g = at(rec);
        if (g == null) {
            return none(NO_SUCH);
        }
        Rec asking = g.rec;
        if (asking == null) {
            return none(WRONG_STATE);
        }
        if (asking.pending != A_CHANGE || asking.next == asking.to) {
            return none(WRONG_REC);
        }
        Entry leaf = asking.realm.leafOf(asking.next);
        if (leaf.first < asking.next || leaf.behind() > asking.to) {
            return none(WRONG_WALK);
        }
        leaf.ripas = asking.ripas;
        asking.next = leaf.behind();
        return done(asking.next);
    }

    // ---- acts of the RUNNING REC

    public int move(int register, int v) {
        Rec rec = running;
        if (rec == null) {
            return none(WRONG_REC);
        }
        if (!isRegister(register)) {
            return fault();
        }
        rec.registers[register] = v;
        return done(DONE);
    }

    public int fetch(int register, int page, int word) {
        Rec rec = running;
        if (rec == null) {
            return none(WRONG_REC);
        }
        if (!isRegister(register) || !isPage(page) || !isWord(word)) {
            return fault();
        }
        Granule g = reached(rec.realm, page);
        if (g == null) {
            return miss(rec, page, false);
        }
        rec.registers[register] = g.words[word];
        return done(DONE);
    }

    public int put(int register, int page, int word) {
        Rec rec = running;
        if (rec == null) {
            return none(WRONG_REC);
        }
        if (!isRegister(register) || !isPage(page) || !isWord(word)) {
            return fault();
        }
        Granule g = reached(rec.realm, page);
        if (g == null) {
            return miss(rec, page, true);
        }
        g.words[word] = rec.registers[register];
        return done(DONE);
    }

    public int yield1() {
        Rec rec = running;
        if (rec == null) {
            return none(WRONG_REC);
        }
        return exit(rec, BY_YIELD, 0, 0, 0);
    }

    public int off() {
        Rec rec = running;
        if (rec == null) {
            return none(WRONG_REC);
        }
        rec.realm.state = OFF;
        return exit(rec, BY_OFF, 0, 0, 0);
    }

    public int state(int page) {
        Rec rec = running;
        if (rec == null) {
            return none(WRONG_REC);
        }
        if (!isProtected(page)) {
            return fault();
        }
        rec.registers[0] = rec.realm.leafOf(page).ripas;
        return done(DONE);
    }

    public int ask(int from, int to, int ripas) {
        Rec rec = running;
        if (rec == null) {
            return none(WRONG_REC);
        }
        boolean inBounds = from >= 0 && from < to && to <= PROTECTED_PAGES;
        if (!inBounds || (ripas != EMPTY && ripas != RAM)) {
            return fault();
        }
        rec.pending = A_CHANGE;
        rec.next = from;
        rec.to = to;
        rec.ripas = ripas;
        return exit(rec, BY_CHANGE, from, to, ripas);
    }

    public int call(int page) {
        Rec rec = running;
        if (rec == null) {
            return none(WRONG_REC);
        }
        if (!isProtected(page)) {
            return fault();
        }
        Granule g = reached(rec.realm, page);
        if (g == null) {
            return miss(rec, page, false);
        }
        rec.pending = A_CALL;
        rec.page = page;
        int answer = exit(rec, BY_CALL, 0, 0, 0);
        Granule run = rec.openRun();
        if (run != null) {
            copyMessage(g, run);
        }
        return answer;
    }

    public int measure(int i) {
        Rec rec = running;
        if (rec == null) {
            return none(WRONG_REC);
        }
        if (!isMeasurement(i)) {
            return fault();
        }
        System.arraycopy(rec.realm.measurements[i], 0, rec.registers, 0, REGISTERS);
        return done(DONE);
    }

    public int extend(int i) {
        Rec rec = running;
        if (rec == null) {
            return none(WRONG_REC);
        }
        if (!isMeasurement(i) || i == 0) {
            return fault();
        }
        int[] measurement = rec.realm.measurements[i];
        digest.startWith(measurement);
        digest.takeRow(rec.registers, REGISTERS);
        digest.finish(measurement, 0, DIGEST_WORDS);
        return done(DONE);
    }

    public int attest(int page) {
        Rec rec = running;
        if (rec == null) {
            return none(WRONG_REC);
        }
        if (!isProtected(page)) {
            return fault();
        }
        Granule g = reached(rec.realm, page);
        if (g == null) {
            return miss(rec, page, true);
        }
        writeToken(rec, g.words);
        return done(DONE);
    }

    // ---- what is told

    public int granule(int granule, int what) {
        Granule g = at(granule);
        if (g == null) {
            return NONE;
        }
        switch (what) {
            case 0:
                return g.state;
            case 1:
                return g.realm == null ? NONE : g.realm.home.number;
            case 2:
                return g.mark;
            default:
                return NONE;
        }
    }

    public int realm(int rd, int what) {
        Granule home = at(rd);
        Realm realm = home == null ? null : home.ownRealm();
        if (realm == null) {
            return NONE;
        }
        switch (what) {
            case 0:
                return realm.state;
            case 1:
                return realm.root.granule.number;
            case 2:
                return realm.recs;
            case 3:
                return realm.rtts;
            case 4:
                return realm.datas;
            case 5:
                return ramPages(realm);
            case 6:
                return realm.recsEver;
            default:
                return NONE;
        }
    }

    public int walk(int rd, int page, int level, int what) {
        Granule home = at(rd);
        Realm realm = home == null ? null : home.ownRealm();
        if (realm == null || !isPage(page) || level < 0 || level > LAST_LEVEL) {
            return NONE;
        }
        Entry entry = realm.entryAt(page, level);
        switch (what) {
            case 0:
                return entry.level;
            case 1:
                return entry.kind();
            case 2:
                return entry.ripas;
            case 3:
                return entry.granule == null ? NONE : entry.granule.number;
            default:
                return NONE;
        }
    }

    public int context(int rec, int what) {
        Granule g = at(rec);
        Rec told = g == null ? null : g.rec;
        if (told == null) {
            return NONE;
        }
        if (isRegister(what)) {
            return told.registers[what];
        }
        switch (what) {
            case 8:
                return bit(told.runnable);
            case 9:
                return bit(told == running);
            case 10:
                return told.pending;
            case 11:
                return told.pending == A_CHANGE ? told.next : NONE;
            case 12:
                return told.pending == A_CHANGE ? told.to : NONE;
            case 13:
                return told.entered;
            default:
                return NONE;
        }
    }

    public int measured(int rd, int i, int k) {
        Granule home = at(rd);
        Realm realm = home == null ? null : home.ownRealm();
        if (realm == null || !isMeasurement(i) || k < 0 || k >= DIGEST_WORDS) {
            return 0;
        }
        return realm.measurements[i][k];
    }

    public int count(int what) {
        switch (what) {
            case 0:
                return granules.length;
            case 1: case 2: case 3: case 4: case 5: case 6:
                return ofState(what - 1);
            case 7:
                return running == null ? NONE : running.granule.number;
            case 8:
                // an RD stands for its REALM, and a REALM has just one
                return ofState(RD);
            case 9:
                return exits;
            case 10:
                return faults;
            default:
                return NONE;
        }
    }

    public int status() {
        return status;
    }

    public int astray() {
        countPlaces();
        int n = 0;
        for (Granule g : granules) {
            if (isAstray(g)) {
                n++;
            }
        }
        return n;
    }

    // ---- how a call ends

    private int done(int answer) {
        status = 0;
        return answer;
    }

    private boolean yes() {
        status = 0;
        return true;
    }

    private int none(int why) {
        status = why;
        return NONE;
    }

    private boolean no(int why) {
        status = why;
        return false;
    }

    private int fault() {
        faults++;
        return done(FAULT);
    }

    private int exit(Rec rec, int reason, int first, int second, int third) {
        Granule run = rec.openRun();
        if (run != null) {
            Arrays.fill(run.words, 0);
            run.words[0] = reason;
            run.words[1] = first;
            run.words[2] = second;
            run.words[3] = third;
        }
        running = null;
        exits++;
        return done(EXITED);
    }

    // ---- bounds

    /** The GRANULE of a number; null if there is no such one. */
    private Granule at(int number) {
        return number >= 0 && number < granules.length ? granules[number] : null;
    }

    private static boolean isWord(int word) {
        return word >= 0 && word < WORDS;
    }

    private static boolean isRegister(int register) {
        return register >= 0 && register < REGISTERS;
    }

    private static boolean isMeasurement(int i) {
        return i >= 0 && i < MEASUREMENTS;
    }

    private static boolean isPage(int page) {
        return page >= 0 && page < PAGES;
    }

    private static boolean isProtected(int page) {
        return page >= 0 && page < PROTECTED_PAGES;
    }

    private static boolean isShared(int page) {
        return page >= PROTECTED_PAGES && page < PAGES;
    }

    private static boolean isTablePlace(int page, int level) {
        // a SPAN is a power of two, so a mask tells its multiples without a divisor
        return isPage(page) && level >= 1 && level <= LAST_LEVEL && (page & (span(level - 1) - 1)) == 0;
    }

    private static int shift(int level) {
        return 3 * (LAST_LEVEL - level);
    }

    private static int span(int level) {
        return 1 << shift(level);
    }

    private static int bit(boolean holds) {
        return holds ? 1 : 0;
    }

    // ---- parts of the host's calls

    private boolean hand(int granule, int from, int to) {
        Granule g = at(granule);
        if (g == null) {
            return no(NO_SUCH);
        }
        if (g.state != from) {
            return no(WRONG_STATE);
        }
        g.become(to, null, NONE);
        return yes();
    }

    private boolean takeTable(int rd, int page, int level, boolean folding) {
        Granule home = at(rd);
        if (home == null || !isTablePlace(page, level)) {
            return no(NO_SUCH);
        }
        Realm realm = home.ownRealm();
        if (realm == null) {
            return no(WRONG_STATE);
        }
        // a WALK that ends too early ends at no TABLE, so its LEVEL need not be looked at
        Entry above = realm.entryAt(page, level - 1);
        Rtt table = above.table;
        if (table == null || !table.isUnassigned() || (folding && !table.hasOneRipas())) {
            return no(WRONG_WALK);
        }
        int lost = isProtected(page) ? DESTROYED : EMPTY;
        above.clear(folding ? table.entries[0].ripas : lost);
        table.granule.become(DELEGATED, null, NONE);
        realm.rtts--;
        return yes();
    }

    private static void giveData(Realm realm, Entry leaf, Granule frame) {
        frame.become(DATA, realm, leaf.first);
        leaf.granule = frame;
        realm.datas++;
    }

    /** What was PENDING comes to its end as the REC is entered. */
    private static void settle(Rec rec, Granule run) {
        if (rec.pending == A_CALL) {
            Granule g = reached(rec.realm, rec.page);
            if (g != null) {
                copyMessage(run, g);
            }
            rec.registers[0] = bit(g == null);
        } else if (rec.pending == A_CHANGE) {
            rec.registers[0] = bit(rec.next != rec.to);
            rec.registers[1] = rec.next;
        }
        rec.pending = NOTHING;
    }

    private static void copyMessage(Granule from, Granule to) {
        System.arraycopy(from.words, MESSAGE_START, to.words, MESSAGE_START, MESSAGE_WORDS);
    }

    // ---- parts of the acts

    /** The GRANULE that a REALM REACHES at a PAGE; null where it FAULTS or ABORTS: miss() tells which. */
    private static Granule reached(Realm realm, int page) {
        Entry leaf = realm.leafOf(page);
        Granule g = leaf.granule;
        if (g == null) {
            return null;
        }
        boolean open = isProtected(page) ? leaf.ripas == RAM : g.state == UNDELEGATED;
        return open ? g : null;
    }

    private int miss(Rec rec, int page, boolean storing) {
        if (isProtected(page) && rec.realm.leafOf(page).ripas == EMPTY) {
            return fault();
        }
        return exit(rec, BY_ABORT, page, bit(storing), 0);
    }

    private void writeToken(Rec rec, int[] words) {
        Realm realm = rec.realm;
        words[0] = TOKEN_MAGIC;
        System.arraycopy(rec.registers, 0, words, TOKEN_REGISTERS, REGISTERS);
        System.arraycopy(realm.rim(), 0, words, TOKEN_RIM, DIGEST_WORDS);
        digest.start();
        for (int i = 1; i < MEASUREMENTS; i++) {
            digest.takeRow(realm.measurements[i], DIGEST_WORDS);
        }
        digest.finish(words, TOKEN_OTHERS, DIGEST_WORDS);
        digest.start();
        digest.takeRow(words, TOKEN_SEAL);
        digest.finish(words, TOKEN_SEAL, WORDS - TOKEN_SEAL);
    }

    // ---- parts of what is told

    private int ofState(int state) {
        int n = 0;
        for (Granule g : granules) {
            n += bit(g.state == state);
        }
        return n;
    }

    private int ofRealm(Realm realm, int state) {
        int n = 0;
        for (Granule g : granules) {
            n += bit(g.state == state && g.realm == realm);
        }
        return n;
    }

    private int ramPages(Realm realm) {
        int n = 0;
        for (Granule g : granules) {
            if (g.table != null && g.realm == realm) {
                n += g.table.ramPages();
            }
        }
        return n;
    }

    /** Counts anew for every GRANULE where it stands, so that astray() trusts none of the numbers kept. */
    private void countPlaces() {
        for (Granule g : granules) {
            g.tabled = 0;
            g.placed = 0;
        }
        for (Granule g : granules) {
            Realm own = g.ownRealm();
            if (own != null) {
                own.root.granule.tabled++;
            }
            if (g.table != null) {
                g.table.countPlaces();
            }
        }
    }

    private boolean isAstray(Granule g) {
        switch (g.state) {
            case RD:
                return !keepsItsNumbers(g.realm);
            case REC:
                return g.rec == null || g.realm == null || g.realm.home.ownRealm() != g.realm;
            case RTT:
                return g.tabled != 1;
            case DATA:
                return g.placed != 1;
            default:
                return g.placed != 0;
        }
    }

    private boolean keepsItsNumbers(Realm realm) {
        return realm != null
            && realm.recs == ofRealm(realm, REC)
            && realm.rtts == ofRealm(realm, RTT)
            && realm.datas == ofRealm(realm, DATA);
    }

    private static final class Granule {
        final int number;
        final int[] words = new int[WORDS];
        int state;
        // the REALM that it is of; null of the UNDELEGATED and DELEGATED
        Realm realm;
        // an RTT's LEVEL, a REC's number, a DATA's PAGE
        int mark = NONE;
        // not null just of a REC, and of an RTT
        Rec rec;
        Rtt table;
        // how often it stands in a TABLE, and at a PROTECTED PAGE, as astray() last counted
        int tabled;
        int placed;

        Granule(int number) {
            this.number = number;
        }

        void become(int newState, Realm newRealm, int newMark) {
            state = newState;
            realm = newRealm;
            mark = newMark;
            rec = null;
            table = null;
            Arrays.fill(words, 0);
        }

        void becomeTable(Realm newRealm, Rtt newTable) {
            become(RTT, newRealm, newTable.level);
            table = newTable;
        }

        void becomeRec(Rec newRec, int newNumber) {
            become(REC, newRec.realm, newNumber);
            rec = newRec;
        }

        /** The REALM that it is the RD of; null of others. */
        Realm ownRealm() {
            return state == RD ? realm : null;
        }
    }

    private static final class Realm {
        final Granule home;
        final Rtt root;
        final int[][] measurements = new int[MEASUREMENTS][DIGEST_WORDS];
        int state = NEW;
        int recs;
        int recsEver;
        int rtts = 1;
        int datas;

        Realm(Granule home, Rtt root) {
            this.home = home;
            this.root = root;
        }

        int[] rim() {
            return measurements[0];
        }

        /** Where the WALK of a PAGE to a LEVEL ends. */
        Entry entryAt(int page, int level) {
            Entry entry = root.entryOf(page);
            for (int k = 0; k < level && entry.table != null; k++) {
                entry = entry.table.entryOf(page);
            }
            return entry;
        }

        Entry leafOf(int page) {
            return entryAt(page, LAST_LEVEL);
        }
    }

    private static final class Rtt {
        final Granule granule;
        final int level;
        final Entry[] entries = new Entry[ENTRIES];

        Rtt(Granule granule, int level, int first, int ripas) {
            this.granule = granule;
            this.level = level;
            for (int i = 0; i < ENTRIES; i++) {
                entries[i] = new Entry(level, first + i * span(level), ripas);
            }
        }

        Entry entryOf(int page) {
            // the mask keeps the index within the row, whatever the PAGE
            return entries[(page >> shift(level)) & (ENTRIES - 1)];
        }

        boolean isUnassigned() {
            for (Entry entry : entries) {
                if (!entry.isUnassigned()) {
                    return false;
                }
            }
            return true;
        }

        boolean hasOneRipas() {
            for (Entry entry : entries) {
                if (entry.ripas != entries[0].ripas) {
                    return false;
                }
            }
            return true;
        }

        int ramPages() {
            int n = 0;
            for (Entry entry : entries) {
                // a TABLE is EMPTY itself, so no PAGE is counted twice
                if (entry.ripas == RAM) {
                    n += span(level);
                }
            }
            return n;
        }

        void countPlaces() {
            for (Entry entry : entries) {
                Granule g = entry.granule;
                if (g != null && entry.table != null) {
                    g.tabled++;
                } else if (g != null && isProtected(entry.first)) {
                    g.placed++;
                }
            }
        }
    }

    private static final class Entry {
        final int level;
        final int first;
        int ripas;
        // null of an UNASSIGNED one
        Granule granule;
        // not null just of a TABLE
        Rtt table;

        Entry(int level, int first, int ripas) {
            this.level = level;
            this.first = first;
            this.ripas = ripas;
        }

        int kind() {
            if (granule == null) {
                return UNASSIGNED;
            }
            return table == null ? ASSIGNED : TABLE;
        }

        boolean isUnassigned() {
            return granule == null;
        }

        boolean isFreePage() {
            return level == LAST_LEVEL && granule == null;
        }

        /** The first PAGE behind it. */
        int behind() {
            return first + span(level);
        }

        void lead(Rtt newTable) {
            granule = newTable.granule;
            table = newTable;
            ripas = EMPTY;
        }

        void clear(int newRipas) {
            granule = null;
            table = null;
            ripas = newRipas;
        }
    }

    private static final class Rec {
        final Granule granule;
        final Realm realm;
        final boolean runnable;
        final int[] registers = new int[REGISTERS];
        int pending = NOTHING;
        // of a CALL
        int page;
        // of a CHANGE
        int next;
        int to;
        int ripas;
        // null until it is entered
        Granule run;
        int entered;

        Rec(Granule granule, Realm realm, boolean runnable) {
            this.granule = granule;
            this.realm = realm;
            this.runnable = runnable;
        }

        /** Its RUN, if it may be written to; null if the host has made something else of it. */
        Granule openRun() {
            return run != null && run.state == UNDELEGATED ? run : null;
        }
    }

    /** SHA-256 (FIPS 180-4) of a few words; its rows are used again by every digest. */
    private static final class Digest {
        private static final int BLOCK = 16;
        private static final int ROUNDS = 64;
        // three blocks hold the longest text (32 words) with its end mark and its length of two words
        private static final int ROOM = 48;
        private static final int MOST_WORDS = ROOM - 3;
        private static final int END_MARK = 0x80000000;
        private static final int[] START = {
            0x6a09e667, 0xbb67ae85, 0x3c6ef372, 0xa54ff53a, 0x510e527f, 0x9b05688c, 0x1f83d9ab, 0x5be0cd19
        };
        private static final int[] ROUND = {
            0x428a2f98, 0x71374491, 0xb5c0fbcf, 0xe9b5dba5, 0x3956c25b, 0x59f111f1, 0x923f82a4, 0xab1c5ed5,
            0xd807aa98, 0x12835b01, 0x243185be, 0x550c7dc3, 0x72be5d74, 0x80deb1fe, 0x9bdc06a7, 0xc19bf174,
            0xe49b69c1, 0xefbe4786, 0x0fc19dc6, 0x240ca1cc, 0x2de92c6f, 0x4a7484aa, 0x5cb0a9dc, 0x76f988da,
            0x983e5152, 0xa831c66d, 0xb00327c8, 0xbf597fc7, 0xc6e00bf3, 0xd5a79147, 0x06ca6351, 0x14292967,
            0x27b70a85, 0x2e1b2138, 0x4d2c6dfc, 0x53380d13, 0x650a7354, 0x766a0abb, 0x81c2c92e, 0x92722c85,
            0xa2bfe8a1, 0xa81a664b, 0xc24b8b70, 0xc76c51a3, 0xd192e819, 0xd6990624, 0xf40e3585, 0x106aa070,
            0x19a4c116, 0x1e376c08, 0x2748774c, 0x34b0bcb5, 0x391c0cb3, 0x4ed8aa4a, 0x5b9cca4f, 0x682e6ff3,
            0x748f82ee, 0x78a5636f, 0x84c87814, 0x8cc70208, 0x90befffa, 0xa4506ceb, 0xbef9a3f7, 0xc67178f2
        };

        private final int[] text = new int[ROOM];
        private final int[] schedule = new int[ROUNDS];
        private final int[] hash = new int[DIGEST_WORDS];
        private int length;

        void start() {
            length = 0;
        }

        /** Starts with a MEASUREMENT, which is EXTENDED by what is taken next. */
        void startWith(int[] measurement) {
            start();
            takeRow(measurement, DIGEST_WORDS);
        }

        void take(int word) {
            if (length < MOST_WORDS) {
                text[length] = word;
                length++;
            }
        }

        void takeRow(int[] row, int words) {
            for (int i = 0; i < words && i < row.length; i++) {
                take(row[i]);
            }
        }

        /** Writes the digest's first words into a row that has room for them. */
        void finish(int[] row, int from, int words) {
            int bits = length * 32;
            int end = (length + 2) / BLOCK * BLOCK + BLOCK;
            for (int i = length; i < end && i < ROOM; i++) {
                text[i] = 0;
            }
            text[length] = END_MARK;
            text[end - 1] = bits;
            System.arraycopy(START, 0, hash, 0, DIGEST_WORDS);
            for (int block = 0; block < end; block += BLOCK) {
                spread(block);
                mix();
            }
            System.arraycopy(hash, 0, row, from, words);
        }

        private static int turned(int word, int right) {
            return (word >>> right) | (word << (32 - right));
        }

        private void spread(int block) {
            System.arraycopy(text, block, schedule, 0, BLOCK);
            for (int t = BLOCK; t < ROUNDS; t++) {
                int near = schedule[t - 2];
                int far = schedule[t - 15];
                int s1 = turned(near, 17) ^ turned(near, 19) ^ (near >>> 10);
                int s0 = turned(far, 7) ^ turned(far, 18) ^ (far >>> 3);
                schedule[t] = s1 + schedule[t - 7] + s0 + schedule[t - 16];
            }
        }

        private void mix() {
            int a = hash[0];
            int b = hash[1];
            int c = hash[2];
            int d = hash[3];
            int e = hash[4];
            int f = hash[5];
            int g = hash[6];
            int h = hash[7];
            for (int t = 0; t < ROUNDS; t++) {
                int s1 = turned(e, 6) ^ turned(e, 11) ^ turned(e, 25);
                int t1 = h + s1 + ((e & f) ^ (~e & g)) + ROUND[t] + schedule[t];
                int s0 = turned(a, 2) ^ turned(a, 13) ^ turned(a, 22);
                int t2 = s0 + ((a & b) ^ (a & c) ^ (b & c));
                h = g;
                g = f;
                f = e;
                e = d + t1;
                d = c;
                c = b;
                b = a;
                a = t1 + t2;
            }
            hash[0] += a;
            hash[1] += b;
            hash[2] += c;
            hash[3] += d;
            hash[4] += e;
            hash[5] += f;
            hash[6] += g;
            hash[7] += h;
        }
    }
}
