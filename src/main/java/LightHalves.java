import java.util.Arrays;

/** The rock whose light is let out by halves; what each call promises stands in the project's document. */
public final class LightHalves {
    public static final int BAD = -1, FULL = -2, NONE = -3, STATE = -4;

    private static final int NO_ROW = -9;
    private static final int NOTHING = -11, OUTSIDE = -12, OTHER_SORT = -13, BELOW_ZERO = -14, PARTED_BY_ZERO = -15;

    private static final int SHIPS = 6, LANES = 6, LIGHTS = 16, MOST_WATCHES = 16;
    private static final int MOST_OFF = 99, MOST_TRIM = 9, PAY = 6;
    private static final int TAPE = 200, RULES = 8, REPORTS = 6, PLAN = 4;
    private static final int SHEETS = 4, SHELVES = 4, ITEMS = 40, SORTS = 5, BYTES = 0, MISSING = -1;

    private static final int TENDER = 1, COASTER = 2, COLLIER = 3, BRIG = 4, CAPTAIN = 5;
    /** WILL; 1 is to stand, by which nothing is done. */
    private static final int ENTER = 0, HAIL = 2;

    /** For each KIND the set of itself and the KINDS above it. */
    private static final int[] SELF_AND_ABOVE = {1, 3, 5, 13, 17, 49};

    private final Rock rock = new Rock();
    private final Rock kept = new Rock();
    private final Standing trial = new Standing();
    private final Planner planner = new Planner();
    private final RuleReader reader = new RuleReader();
    private final Rules draft = new Rules();
    private final Host host = new Host();
    private final Thing thing = new Thing();
    private final int[] tape = new int[TAPE];
    private final int[] rows = new int[PLAN * 3];
    private int tapeCount = 0;
    private int rowCount = 0;
    private boolean isKept = false;

    public LightHalves() {
    }

    // ---- the rock, ships

    public int ship(int kind, int off, int trim, int lane) {
        if (!within(kind, TENDER, CAPTAIN) || !within(off, 0, MOST_OFF)) {
            return BAD;
        }
        if (!within(trim, 0, MOST_TRIM) || !within(lane, 0, LANES - 1)) {
            return BAD;
        }
        if (rock.count >= SHIPS) {
            return FULL;
        }
        return rock.enlist(kind, off, trim, lane);
    }

    public int shipOf(int k, int what) {
        if (!rock.has(k)) {
            return BAD;
        }
        Standing now = rock.now;
        switch (what) {
            case 0: return rock.kinds[k];
            case 1: return now.off[k];
            case 2: return rock.trims[k];
            case 3: return rock.lanes[k];
            case 4: return now.isHome(k) ? 1 : 0;
            case 5: return rock.nears(now, k);
            case 6: return rock.reaches(now, k, rock.trims[k]);
            case 7: return rock.pays(now, k);
            case 8: return rock.mayEnter(now, k) ? 1 : 0;
            case 9: return rock.will(now, k);
            default: return BAD;
        }
    }

    public int change(int k, int what, int v) {
        if (!rock.has(k) || v < 0) {
            return BAD;
        }
        switch (what) {
            case 1: return v > MOST_OFF ? BAD : put(rock.now.off, k, v);
            case 2: return v > MOST_TRIM ? BAD : put(rock.trims, k, v);
            case 3: return v >= LANES ? BAD : put(rock.lanes, k, v);
            case 4: return v > 1 ? BAD : rock.now.bring(k, v);
            default: return BAD;
        }
    }

    public int remake(int k, int kind) {
        if (!rock.has(k) || !within(kind, TENDER, CAPTAIN)) {
            return BAD;
        }
        return put(rock.kinds, k, kind);
    }

    public int light(int watch, int v) {
        if (!within(watch, 0, LIGHTS - 1) || !within(v, 0, 15)) {
            return BAD;
        }
        return put(rock.lights, watch, v);
    }

    public int lane(int f, int what, int v) {
        if (!within(f, 0, LANES - 1) || !within(what, 0, 1) || !within(v, 0, 9)) {
            return BAD;
        }
        return put(what == 0 ? rock.currents : rock.buoys, f, v);
    }

    public int laneOf(int f, int what) {
        if (!within(f, 0, LANES - 1) || !within(what, 0, 1)) {
            return BAD;
        }
        return what == 0 ? rock.currents[f] : rock.buoys[f];
    }

    public int ends(int v) {
        if (!within(v, 1, MOST_WATCHES)) {
            return BAD;
        }
        if (v < rock.now.watch) {
            return STATE;
        }
        int was = rock.end;
        rock.end = v;
        return was;
    }

    public int anew() {
        int was = rock.now.watch;
        rock.now.watch = 0;
        rock.now.score = 0;
        rock.now.home = 0;
        return was;
    }

    public int state(int what) {
        switch (what) {
            case 0: return rock.now.watch;
            case 1: return rock.end;
            case 2: return rock.now.score;
            case 3: return rock.isOver(rock.now) ? 1 : 0;
            case 4: return rock.now.home;
            case 5: return rock.lightAt(rock.now.watch);
            case 6: return rock.stranded(rock.now);
            default: return BAD;
        }
    }

    // ---- the rules

    public int feed(long eight, int n) {
        if (!within(n, 1, 8)) {
            return BAD;
        }
        if (tapeCount + n > TAPE) {
            return FULL;
        }
        for (int i = 0; i < n; i++) {
            tape[tapeCount + i] = (int) (eight >>> (8 * i)) & 255;
        }
        tapeCount += n;
        return tapeCount;
    }

    public int rules() {
        int fault = reader.read(tape, tapeCount, draft);
        tapeCount = 0;
        if (fault != RuleReader.NO_FAULT) {
            return -100 - fault;
        }
        rock.rules.become(draft);
        return draft.count;
    }

    // ---- watches

    public int watch() {
        return rock.isOver(rock.now) ? STATE : rock.passRest(rock.now);
    }

    public int on(int n) {
        return within(n, 0, MOST_WATCHES) ? worthOfRest(n) : BAD;
    }

    public int when(int k) {
        if (!rock.has(k)) {
            return BAD;
        }
        if (rock.now.isHome(k)) {
            return NONE;
        }
        trial.become(rock.now);
        for (int i = 0; i < MOST_WATCHES && !rock.isOver(trial); i++) {
            rock.passRest(trial);
            if (trial.isHome(k)) {
                return trial.watch - 1;
            }
        }
        return NONE;
    }

    public int trimFor(int k) {
        return rock.has(k) ? leastOfBest(rock.trims, k, MOST_TRIM) : BAD;
    }

    public int laneFor(int k) {
        return rock.has(k) ? leastOfBest(rock.lanes, k, LANES - 1) : BAD;
    }

    // ---- who is on the rock, what trim it takes, who is safe, convoys

    public int rock(int k) {
        if (!rock.has(k)) {
            return BAD;
        }
        trial.become(rock.now);
        for (int i = 0; i <= MOST_WATCHES; i++) {
            if (trial.isOnRock(k)) {
                return trial.watch;
            }
            if (rock.isOver(trial)) {
                return NONE;
            }
            rock.passRest(trial);
        }
        return NONE;
    }

    public int least(int k) {
        if (!rock.has(k)) {
            return BAD;
        }
        for (int trim = 0; trim <= MOST_TRIM; trim++) {
            if (rock.inReach(rock.now, k, trim)) {
                return trim;
            }
        }
        return NONE;
    }

    public int safe(int n) {
        if (!within(n, 0, MOST_WATCHES)) {
            return BAD;
        }
        worthOfRest(n);
        int safe = 0;
        for (int k = 0; k < rock.count; k++) {
            if (!trial.isOnRock(k)) {
                safe |= 1 << k;
            }
        }
        return safe;
    }

    public int convoys(int what) {
        if (what == -1) {
            return countConvoys();
        }
        if (!rock.has(what)) {
            return BAD;
        }
        return rock.now.isHome(what) ? 0 : rock.convoyOf(what);
    }

    // ---- plans

    public int best(int n) {
        if (!within(n, 0, PLAN)) {
            return BAD;
        }
        planner.study(rock, n, 0);
        return planner.best;
    }

    public int ith(int n, int i) {
        if (!within(n, 0, PLAN) || !within(i, 0, PLAN - 1)) {
            return BAD;
        }
        planner.study(rock, n, 0);
        return i < planner.length ? planner.first[i] : NONE;
    }

    public int ways(int n) {
        if (!within(n, 0, PLAN)) {
            return BAD;
        }
        planner.study(rock, n, 0);
        return planner.ways;
    }

    public int log(int n, int ships) {
        if (!within(n, 0, PLAN) || !rock.hasAll(ships)) {
            return BAD;
        }
        planner.study(rock, n, ships);
        return planner.fewest;
    }

    public int bars(int n, int ships) {
        if (!within(n, 0, PLAN) || !rock.hasAll(ships)) {
            return BAD;
        }
        planner.study(rock, n, ships);
        return leastOfSet(ships & ~planner.everHome);
    }

    // ---- a game, strangers, lots

    public int game(int n) {
        return within(n, 1, PLAN) ? planner.duelOf(rock, n) : BAD;
    }

    public int play(int n) {
        if (!within(n, 1, PLAN)) {
            return BAD;
        }
        if (rock.isOver(rock.now)) {
            return NONE;
        }
        planner.duelOf(rock, n);
        return planner.acts[0];
    }

    public int report(int k, int asked, int least, int most) {
        if (!within(k, 0, 15) || !within(asked, 0, 1)) {
            return BAD;
        }
        int highest = asked == 0 ? MOST_OFF : MOST_WATCHES;
        if (!within(least, 0, highest) || !within(most, least, highest)) {
            return BAD;
        }
        if (rock.reports.count >= REPORTS) {
            return FULL;
        }
        return rock.reports.file(k, asked, least, most);
    }

    public int forget() {
        int was = rock.reports.count;
        rock.reports.count = 0;
        return was;
    }

    public int lone(int what) {
        if (!within(what, 0, 3)) {
            return BAD;
        }
        if (what == 0) {
            return countLone();
        }
        int stranger = firstLone();
        if (stranger == NONE) {
            return NONE;
        }
        switch (what) {
            case 1: return Reports.kindOf(stranger);
            case 2: return Reports.trimOf(stranger);
            default: return Reports.offOf(stranger);
        }
    }

    public int liar() {
        int lonely = 0;
        for (int stranger = 0; stranger < Reports.STRANGERS; stranger++) {
            int wrong = rock.reports.wrongFor(stranger, rock.lights);
            if (wrong == 0) {
                return NONE;
            }
            if (Integer.bitCount(wrong) == 1) {
                lonely |= wrong;
            }
        }
        return leastOfSet(lonely);
    }

    public int seed(int v) {
        int was = rock.z;
        rock.z = v;
        return was;
    }

    public int lot() {
        return rock.isOver(rock.now) ? STATE : rock.passByLot(rock.now);
    }

    public int times(int n, int v) {
        if (!within(n, 1, 40) || !within(v, 0, 999)) {
            return BAD;
        }
        int z = rock.z;
        int reached = 0;
        for (int i = 0; i < n; i++) {
            if (worthByLot() >= v) {
                reached++;
            }
        }
        rock.z = z;
        return reached;
    }

    // ---- rows

    public int prove(int n) {
        if (!within(n, 0, PLAN)) {
            return BAD;
        }
        planner.study(rock, n, 0);
        rowCount = planner.length;
        trial.become(rock.now);
        for (int i = 0; i < rowCount; i++) {
            rows[3 * i] = planner.first[i];
            rows[3 * i + 1] = rock.pass(trial, planner.first[i]);
            rows[3 * i + 2] = trial.home;
        }
        return rowCount;
    }

    public int row(int k, int what) {
        return hasCell(k, what) ? rows[3 * k + what] : NO_ROW;
    }

    public int alterRow(int k, int what, int v) {
        return hasCell(k, what) ? put(rows, 3 * k + what, v) : NO_ROW;
    }

    public int judge() {
        trial.become(rock.now);
        for (int i = 0; i < rowCount; i++) {
            int act = rows[3 * i];
            if (!rock.hasAct(act) || rock.isOver(trial)) {
                return i + 1;
            }
            int worth = rock.pass(trial, act);
            if (worth != rows[3 * i + 1] || trial.home != rows[3 * i + 2]) {
                return i + 1;
            }
        }
        return 0;
    }

    // ---- the host

    public int sheet(int sheet, int sort, int n) {
        if (!Host.hasSheet(sheet) || !within(sort, MISSING, SORTS - 1)) {
            return BAD;
        }
        if (sort != MISSING && n > ITEMS) {
            return BAD;
        }
        if (sort != MISSING && n < 0) {
            return BELOW_ZERO;
        }
        host.lay(sheet, sort, n);
        return 1;
    }

    public int write(int sheet, int i, int v) {
        if (!Host.hasSheet(sheet)) {
            return BAD;
        }
        if (host.isMissing(sheet)) {
            return NOTHING;
        }
        if (!host.hasItem(sheet, i)) {
            return OUTSIDE;
        }
        host.put(sheet, i, v);
        return 1;
    }

    public int item(int sheet, int sort, int i) {
        if (!Host.hasSheet(sheet) || !within(sort, 0, SORTS - 1)) {
            return BAD;
        }
        int refusal = host.refusalOf(sheet, sort);
        if (refusal != 0) {
            return refusal;
        }
        return host.hasItem(sheet, i) ? host.get(sheet, i) : OUTSIDE;
    }

    public int goAll(int sheet, int i, int n) {
        if (!Host.hasSheet(sheet) || !within(n, 0, 20)) {
            return BAD;
        }
        int refusal = host.refusalOf(sheet, BYTES);
        if (refusal != 0) {
            return refusal;
        }
        int worth = 0;
        for (int j = 0; j < n; j++) {
            if (!host.hasItem(sheet, i + j)) {
                return OUTSIDE;
            }
            int act = host.get(sheet, i + j);
            if (rock.hasAct(act) && !rock.isOver(rock.now)) {
                worth += rock.pass(rock.now, act);
            }
        }
        return worth;
    }

    public int wouldBe(int sheet, int i, int n) {
        if (!Host.hasSheet(sheet) || !within(n, 0, 20)) {
            return BAD;
        }
        int refusal = host.refusalOf(sheet, BYTES);
        if (refusal != 0) {
            return refusal;
        }
        trial.become(rock.now);
        int worth = 0;
        for (int j = 0; j < n; j++) {
            if (!host.hasItem(sheet, i + j)) {
                return OUTSIDE;
            }
            int act = host.get(sheet, i + j);
            if (!rock.hasAct(act) || rock.isOver(trial)) {
                return STATE;
            }
            worth += rock.pass(trial, act);
        }
        return worth;
    }

    public int shelf(int shelf, int what, int n) {
        if (!Host.hasShelf(shelf)) {
            return BAD;
        }
        switch (what) {
            case 0: return rock.has(n) ? host.holdShip(shelf, n) : BAD;
            case 1: return Host.hasSheet(n) ? host.holdRow(shelf, n) : BAD;
            case 2: return host.holdNothing(shelf);
            default: return BAD;
        }
    }

    public int taken(int shelf, int as) {
        if (!Host.hasShelf(shelf) || !within(as, 0, CAPTAIN) && !within(as, 10, 9 + SORTS)) {
            return BAD;
        }
        if (host.holdsRow(shelf)) {
            return host.sortOn(shelf) == as - 10 ? host.sizeOn(shelf) : OTHER_SORT;
        }
        int k = host.shipOn(shelf);
        if (!rock.has(k)) {
            return NOTHING;
        }
        return as < 10 && isOrUnder(rock.kinds[k], as) ? k : OTHER_SORT;
    }

    public int act(int shelf, int act, int x) {
        thing.forgetTrace();
        int k = Host.hasShelf(shelf) ? host.shipOn(shelf) : NONE;
        if (!rock.has(k)) {
            return 0;
        }
        thing.stand(rock.kinds[k], k, rock.lanes[k]);
        int answer = 0;
        switch (act) {
            case 0: answer = thing.sights(x); break;
            case 1: answer = thing.tacks(x); break;
            case 2: answer = thing.sounds(x); break;
            case 3: answer = thing.lands(x); break;
            default: return 0;
        }
        return thing.parted ? PARTED_BY_ZERO : answer;
    }

    public int trace(int i) {
        return within(i, 0, thing.traceCount - 1) ? thing.bodies[i] : NONE;
    }

    public int many(int what) {
        switch (what) {
            case 0: return rock.count;
            case 1: return rock.rules.count;
            case 2: return Integer.bitCount(rock.now.home);
            case 3: return rock.reports.count;
            case 4: return rowCount;
            case 5: return tapeCount;
            case 6: return thing.traceCount;
            default: return BAD;
        }
    }

    // ---- kept

    public int keep() {
        kept.become(rock);
        isKept = true;
        return 1;
    }

    public int again() {
        if (!isKept) {
            return NONE;
        }
        rock.become(kept);
        return rock.count;
    }

    // ---- helpers of the calls above

    private static boolean within(int v, int least, int most) {
        return v >= least && v <= most;
    }

    private static boolean isOrUnder(int kind, int above) {
        return (SELF_AND_ABOVE[kind] >> above & 1) == 1;
    }

    private static int put(int[] cells, int i, int v) {
        int was = cells[i];
        cells[i] = v;
        return was;
    }

    /** Of SHIPS or REPORTS, six at most. */
    private static int leastOfSet(int set) {
        for (int k = 0; k < 6; k++) {
            if ((set >> k & 1) == 1) {
                return k;
            }
        }
        return NONE;
    }

    private boolean hasCell(int k, int what) {
        return within(k, 0, rowCount - 1) && within(what, 0, 2);
    }

    /** Leaves in trial how it stands behind these WATCHES. */
    private int worthOfRest(int n) {
        trial.become(rock.now);
        for (int i = 0; i < n && !rock.isOver(trial); i++) {
            rock.passRest(trial);
        }
        return trial.score - rock.now.score;
    }

    private int worthByLot() {
        trial.become(rock.now);
        for (int i = 0; i < MOST_WATCHES && !rock.isOver(trial); i++) {
            rock.passByLot(trial);
        }
        return trial.score - rock.now.score;
    }

    /** Tries each value of a SHIP's cell and puts the old one back: the least that makes THE REST WORTH most. */
    private int leastOfBest(int[] cells, int k, int most) {
        int was = cells[k];
        int best = 0;
        int bestWorth = -1;
        for (int v = 0; v <= most; v++) {
            cells[k] = v;
            int worth = worthOfRest(MOST_WATCHES);
            if (worth > bestWorth) {
                bestWorth = worth;
                best = v;
            }
        }
        cells[k] = was;
        return best;
    }

    private int countConvoys() {
        int convoys = 0;
        for (int k = 0; k < rock.count; k++) {
            if (!rock.now.isHome(k) && leastOfSet(rock.convoyOf(k)) == k) {
                convoys++;
            }
        }
        return convoys;
    }

    private int countLone() {
        int fitting = 0;
        for (int stranger = 0; stranger < Reports.STRANGERS; stranger++) {
            if (rock.reports.wrongFor(stranger, rock.lights) == 0) {
                fitting++;
            }
        }
        return fitting;
    }

    private int firstLone() {
        for (int stranger = 0; stranger < Reports.STRANGERS; stranger++) {
            if (rock.reports.wrongFor(stranger, rock.lights) == 0) {
                return stranger;
            }
        }
        return NONE;
    }

    /** What a KIND NEARS by itself, ahead of LANES. */
    private static int nearsAlone(int kind, int light, int watch) {
        int flash = light >> 2;
        int dark = light & 3;
        switch (kind) {
            case TENDER: return flash * dark;
            case COASTER: return 2 * flash;
            case COLLIER: return 2 * flash + dark;
            case BRIG: return 3 + dark;
            case CAPTAIN: return watch % 3 == 0 ? 0 : 3 + dark;
            default: return 2 + flash;
        }
    }

    /** What a KIND REACHES by itself, ahead of BUOYS. */
    private static int reachesAlone(int kind, int trim, int light) {
        int flash = light >> 2;
        int plain = 10 + 2 * trim;
        switch (kind) {
            case TENDER: return 20;
            case COASTER: return plain + 5;
            case COLLIER: return Math.max(0, plain + 5 - 3 * flash);
            case BRIG: return plain + 3 * flash;
            case CAPTAIN: return (plain + 3 * flash) / 2;
            default: return plain;
        }
    }

    /** What WATCHES change; apart from the rock, so that a trial copies little. */
    private static final class Standing {
        final int[] off = new int[SHIPS];
        int watch = 0;
        int score = 0;
        int home = 0;

        void become(Standing other) {
            System.arraycopy(other.off, 0, off, 0, SHIPS);
            watch = other.watch;
            score = other.score;
            home = other.home;
        }

        boolean isHome(int k) {
            return (home >> k & 1) == 1;
        }

        boolean isOnRock(int k) {
            return !isHome(k) && off[k] == 0;
        }

        int bring(int k, int v) {
            int was = home >> k & 1;
            home = home & ~(1 << k) | v << k;
            return was;
        }
    }

    /** All that keep() keeps, and how a WATCH goes by there. */
    private static final class Rock {
        final int[] kinds = new int[SHIPS];
        final int[] trims = new int[SHIPS];
        final int[] lanes = new int[SHIPS];
        final int[] lights = new int[LIGHTS];
        final int[] currents = new int[LANES];
        final int[] buoys = new int[LANES];
        final Standing now = new Standing();
        final Rules rules = new Rules();
        final Reports reports = new Reports();
        int count = 0;
        int end = 12;
        int z = 1;

        Rock() {
            Arrays.fill(lights, 6);
        }

        void become(Rock other) {
            System.arraycopy(other.kinds, 0, kinds, 0, SHIPS);
            System.arraycopy(other.trims, 0, trims, 0, SHIPS);
            System.arraycopy(other.lanes, 0, lanes, 0, SHIPS);
            System.arraycopy(other.lights, 0, lights, 0, LIGHTS);
            System.arraycopy(other.currents, 0, currents, 0, LANES);
            System.arraycopy(other.buoys, 0, buoys, 0, LANES);
            now.become(other.now);
            rules.become(other.rules);
            reports.become(other.reports);
            count = other.count;
            end = other.end;
            z = other.z;
        }

        boolean has(int k) {
            return k >= 0 && k < count;
        }

        boolean hasAll(int ships) {
            return ships >= 0 && ships < 1 << count;
        }

        boolean hasAct(int act) {
            return act >= 0 && act <= count;
        }

        boolean isOver(Standing s) {
            return s.watch >= end;
        }

        int lightAt(int watch) {
            return watch >= 0 && watch < LIGHTS ? lights[watch] : 0;
        }

        int enlist(int kind, int off, int trim, int lane) {
            int k = count;
            kinds[k] = kind;
            trims[k] = trim;
            lanes[k] = lane;
            now.off[k] = off;
            count++;
            return k;
        }

        int stranded(Standing s) {
            int stranded = 0;
            for (int k = 0; k < count; k++) {
                if (s.isOnRock(k)) {
                    stranded++;
                }
            }
            return stranded;
        }

        int nears(Standing s, int k) {
            int nears = nearsAlone(kinds[k], lightAt(s.watch), s.watch) + currents[lanes[k]];
            for (int other = 0; other < count; other++) {
                if (other != k && lanes[other] == lanes[k] && !s.isHome(other)) {
                    nears--;
                }
            }
            return Math.max(0, nears);
        }

        int reaches(Standing s, int k, int trim) {
            return reachesAlone(kinds[k], trim, lightAt(s.watch)) + buoys[lanes[k]];
        }

        /** Whether she would PAY more than 0 with this TRIM. */
        boolean inReach(Standing s, int k, int trim) {
            if (s.isHome(k) || s.off[k] == 0) {
                return false;
            }
            // said again here, and not by reaches(), for the depth of calls
            return s.off[k] <= reachesAlone(kinds[k], trim, lightAt(s.watch)) + buoys[lanes[k]];
        }

        int pays(Standing s, int k) {
            return inReach(s, k, trims[k]) ? PAY + trims[k] : 0;
        }

        int will(Standing s, int k) {
            rules.learn(s.watch, s.off[k], trims[k], lightAt(s.watch) >> 2, k);
            for (int r = 0; r < rules.count; r++) {
                if (isOrUnder(kinds[k], rules.kinds[r]) && rules.holds(r)) {
                    return rules.deeds[r];
                }
            }
            return ENTER;
        }

        boolean mayEnter(Standing s, int k) {
            return inReach(s, k, trims[k]) && will(s, k) == ENTER;
        }

        int leastThatMayEnter(Standing s) {
            for (int k = 0; k < count; k++) {
                if (mayEnter(s, k)) {
                    return k;
                }
            }
            return NONE;
        }

        /** The SHIPS by whom it makes a difference whether they are told. */
        int stirring(Standing s) {
            int stirring = 0;
            for (int k = 0; k < count; k++) {
                if (mayEnter(s, k) || !s.isHome(k) && will(s, k) == HAIL) {
                    stirring |= 1 << k;
                }
            }
            return stirring;
        }

        int pass(Standing s, int act) {
            int worth = has(act - 1) && !s.isHome(act - 1) ? obey(s, act - 1) : 0;
            for (int k = 0; k < count; k++) {
                if (!s.isHome(k)) {
                    s.off[k] = Math.max(0, s.off[k] - nears(s, k));
                }
            }
            worth += Math.max(0, Integer.bitCount(s.home) - stranded(s));
            s.watch++;
            s.score += worth;
            return worth;
        }

        private int obey(Standing s, int k) {
            switch (will(s, k)) {
                case ENTER:
                    if (!inReach(s, k, trims[k])) {
                        return 0;
                    }
                    s.bring(k, 1);
                    return PAY + trims[k];
                case HAIL:
                    s.off[k] = Math.min(MOST_OFF, s.off[k] + 12);
                    return (lightAt(s.watch) & 3) > 1 ? 1 : 0;
                default:
                    return 0;
            }
        }

        int passRest(Standing s) {
            int k = leastThatMayEnter(s);
            return pass(s, k == NONE ? 0 : k + 1);
        }

        int passByLot(Standing s) {
            z = z * 1103515245 + 12345;
            return pass(s, (z >>> 16) % (count + 1));
        }

        private boolean areClose(int one, int other) {
            if (now.isHome(one) || now.isHome(other)) {
                return false;
            }
            return lanes[one] == lanes[other] || Math.abs(now.off[one] - now.off[other]) <= 4;
        }

        int convoyOf(int k) {
            int convoy = 1 << k;
            // a round adds those next to the convoy; the farthest is count - 1 steps off
            for (int round = 1; round < count; round++) {
                for (int one = 0; one < count; one++) {
                    for (int other = 0; other < count; other++) {
                        if ((convoy >> one & 1) == 1 && areClose(one, other)) {
                            convoy |= 1 << other;
                        }
                    }
                }
            }
            return convoy;
        }
    }

    /** THE RULES; their conditions are rows of steps, each VALUES' comparison ahead of what joins it. */
    private static final class Rules {
        static final int OR = 1, AND = 2, NOT = 3, LESS = 4, SAME = 5, MORE = 6;
        /** A VALUE from here on is a FACT. */
        static final int FACT = 10000;

        final int[] kinds = new int[RULES];
        final int[] deeds = new int[RULES];
        /** Where each RULE's steps begin, and, one behind, where they end. */
        final int[] begins = new int[RULES + 1];
        final int[] steps = new int[TAPE];
        final int[] lefts = new int[TAPE];
        final int[] rights = new int[TAPE];
        final int[] facts = new int[5];
        int count = 0;
        int size = 0;

        void become(Rules other) {
            System.arraycopy(other.kinds, 0, kinds, 0, RULES);
            System.arraycopy(other.deeds, 0, deeds, 0, RULES);
            System.arraycopy(other.begins, 0, begins, 0, RULES + 1);
            System.arraycopy(other.steps, 0, steps, 0, other.size);
            System.arraycopy(other.lefts, 0, lefts, 0, other.size);
            System.arraycopy(other.rights, 0, rights, 0, other.size);
            count = other.count;
            size = other.size;
        }

        void clear() {
            count = 0;
            size = 0;
        }

        void addStep(int step, int left, int right) {
            if (size < TAPE) {
                steps[size] = step;
                lefts[size] = left;
                rights[size] = right;
                size++;
            }
        }

        /** Ends a RULE, whose steps are those added since the one before it. */
        void addRule(int kind, int deed) {
            if (count < RULES) {
                kinds[count] = kind;
                deeds[count] = deed;
                count++;
                begins[count] = size;
            }
        }

        void learn(int watch, int off, int trim, int flash, int number) {
            facts[0] = watch;
            facts[1] = off;
            facts[2] = trim;
            facts[3] = flash;
            facts[4] = number;
        }

        /** Whether the condition of a RULE is so by the FACTS learnt; one without a condition always is. */
        boolean holds(int r) {
            // one bit for each truth that waits, the latest lowest: three open "(" keep them below ten
            int truths = begins[r] == begins[r + 1] ? 1 : 0;
            for (int i = begins[r]; i < begins[r + 1]; i++) {
                int left = lefts[i] < FACT ? lefts[i] : facts[lefts[i] - FACT];
                int right = rights[i] < FACT ? rights[i] : facts[rights[i] - FACT];
                switch (steps[i]) {
                    case NOT: truths ^= 1; break;
                    case AND: truths = truths >> 1 & (truths | ~1); break;
                    case OR: truths = truths >> 1 | truths & 1; break;
                    case LESS: truths = truths << 1 | (left < right ? 1 : 0); break;
                    case SAME: truths = truths << 1 | (left == right ? 1 : 0); break;
                    default: truths = truths << 1 | (left > right ? 1 : 0); break;
                }
            }
            return (truths & 1) == 1;
        }
    }

    /** Reads THE TAPE as a TEXT, a token at a time; what may come next is told by one number. */
    private static final class RuleReader {
        static final int NO_FAULT = -1;

        private static final String WORDS =
                "ship tender coaster collier brig captain enter stand hail if and or not watch off trim flash number ";
        /** Tokens: words by their place in WORDS, other bytes by themselves and BYTE. */
        private static final int CAPTAIN_WORD = 5, ENTER_WORD = 6, HAIL_WORD = 8, IF_WORD = 9, AND_WORD = 10;
        private static final int OR_WORD = 11, NOT_WORD = 12, WATCH_WORD = 13, NUMBER_WORD = 17;
        private static final int NUMERAL = 18, END_OF_TEXT = 19, UNKNOWN = 20, BYTE = 256;

        private static final int A_KIND = 0, IF_OR_DO = 1, A_ONE = 2, A_SIGN = 3, A_VALUE = 4;
        private static final int BEHIND_ONE = 5, A_SEMICOLON = 6;

        /** An open "(" among what waits to join; below all joins, so that none is taken across it. */
        private static final int OPEN = 0, MOST_OPEN = 3;

        private final int[] waiting = new int[TAPE];
        private int waitingCount = 0;
        private int open = 0;
        private int expected = A_KIND;
        private int kind = 0;
        private int left = 0;
        private int sign = 0;
        private int token = END_OF_TEXT;
        private int tokenAt = 0;
        private int numeral = 0;
        private int place = 0;

        /** The FAULT, or NO_FAULT. */
        int read(int[] tape, int length, Rules into) {
            into.clear();
            waitingCount = 0;
            open = 0;
            place = 0;
            expected = A_KIND;
            // each token is one byte long at least
            for (int i = 0; i <= length; i++) {
                advance(tape, length);
                if (token == END_OF_TEXT) {
                    return expected == A_KIND ? NO_FAULT : length;
                }
                if (!accepts(into)) {
                    return tokenAt;
                }
            }
            return NO_FAULT;
        }

        private void advance(int[] tape, int length) {
            while (place < length && tape[place] == ' ') {
                place++;
            }
            tokenAt = place;
            if (place >= length) {
                token = END_OF_TEXT;
            } else if (isLetter(tape[place])) {
                while (place < length && isLetter(tape[place])) {
                    place++;
                }
                token = wordOf(tape, tokenAt, place - tokenAt);
            } else if (isDigit(tape[place])) {
                advanceDigits(tape, length);
            } else {
                token = BYTE + tape[place];
                place++;
            }
        }

        private void advanceDigits(int[] tape, int length) {
            numeral = 0;
            while (place < length && isDigit(tape[place])) {
                numeral = numeral * 10 + tape[place] - '0';
                place++;
            }
            token = place - tokenAt <= 4 ? NUMERAL : UNKNOWN;
        }

        private static boolean isLetter(int b) {
            return b >= 'a' && b <= 'z';
        }

        private static boolean isDigit(int b) {
            return b >= '0' && b <= '9';
        }

        private static int wordOf(int[] tape, int from, int length) {
            int word = 0;
            int at = 0;
            boolean same = true;
            for (int i = 0; i < WORDS.length(); i++) {
                char c = WORDS.charAt(i);
                if (c != ' ') {
                    same = same && at < length && tape[from + at] == c;
                    at++;
                } else if (same && at == length) {
                    return word;
                } else {
                    word++;
                    at = 0;
                    same = true;
                }
            }
            return UNKNOWN;
        }

        private boolean accepts(Rules into) {
            switch (expected) {
                case A_KIND: return acceptsKind(into);
                case IF_OR_DO: return token == IF_WORD ? expect(A_ONE) : acceptsDo(into);
                case A_ONE: return acceptsOne();
                case A_SIGN: return acceptsSign();
                case A_VALUE: return acceptsRight(into);
                case BEHIND_ONE: return acceptsBehindOne(into);
                default: return token == BYTE + ';' && expect(A_KIND);
            }
        }

        private boolean expect(int next) {
            expected = next;
            return true;
        }

        private boolean acceptsKind(Rules into) {
            if (token > CAPTAIN_WORD || into.count >= RULES) {
                return false;
            }
            kind = token;
            return expect(IF_OR_DO);
        }

        private boolean acceptsDo(Rules into) {
            if (token < ENTER_WORD || token > HAIL_WORD) {
                return false;
            }
            into.addRule(kind, token - ENTER_WORD);
            return expect(A_SEMICOLON);
        }

        private boolean acceptsOne() {
            if (token == NOT_WORD) {
                await(Rules.NOT);
                return true;
            }
            if (token == BYTE + '(') {
                if (open >= MOST_OPEN) {
                    return false;
                }
                open++;
                await(OPEN);
                return true;
            }
            left = valueOfToken();
            return left != NONE && expect(A_SIGN);
        }

        private boolean acceptsSign() {
            switch (token) {
                case BYTE + '<': sign = Rules.LESS; break;
                case BYTE + '=': sign = Rules.SAME; break;
                case BYTE + '>': sign = Rules.MORE; break;
                default: return false;
            }
            return expect(A_VALUE);
        }

        private boolean acceptsRight(Rules into) {
            int right = valueOfToken();
            if (right == NONE) {
                return false;
            }
            into.addStep(sign, left, right);
            return expect(BEHIND_ONE);
        }

        private boolean acceptsBehindOne(Rules into) {
            if (token == AND_WORD || token == OR_WORD) {
                int step = token == AND_WORD ? Rules.AND : Rules.OR;
                join(into, step);
                await(step);
                return expect(A_ONE);
            }
            if (open == 0) {
                join(into, Rules.OR);
                return acceptsDo(into);
            }
            return token == BYTE + ')' && closes(into);
        }

        private boolean closes(Rules into) {
            join(into, Rules.OR);
            open--;
            if (waitingCount > 0) {
                waitingCount--;
            }
            return true;
        }

        private void await(int step) {
            if (waitingCount < TAPE) {
                waiting[waitingCount] = step;
                waitingCount++;
            }
        }

        /** What waits and binds as close as this one, or closer, has both its sides now. */
        private void join(Rules into, int step) {
            while (waitingCount > 0 && waiting[waitingCount - 1] >= step) {
                waitingCount--;
                into.addStep(waiting[waitingCount], 0, 0);
            }
        }

        private int valueOfToken() {
            if (token == NUMERAL) {
                return numeral;
            }
            return token >= WATCH_WORD && token <= NUMBER_WORD ? Rules.FACT + token - WATCH_WORD : NONE;
        }
    }

    /** Goes through all PLANS and GAMES of some WATCHES from now on. */
    private static final class Planner {
        final Standing[] ahead = new Standing[PLAN + 1];
        final int[] acts = new int[PLAN];
        final int[] first = new int[PLAN];
        int length = 0;
        int wanted = 0;
        int best = 0;
        int ways = 0;
        int fewest = NONE;
        int everHome = 0;

        Planner() {
            for (int i = 0; i <= PLAN; i++) {
                ahead[i] = new Standing();
            }
        }

        private void begin(Rock rock, int n) {
            length = Math.max(0, Math.min(Math.min(n, PLAN), rock.end - rock.now.watch));
            ahead[0].become(rock.now);
        }

        void study(Rock rock, int n, int ships) {
            begin(rock, n);
            wanted = ships;
            best = -1;
            ways = 0;
            fewest = NONE;
            everHome = 0;
            explore(rock, 0, 0, 1);
        }

        /**
         * Whom it changes nothing to tell is not tried: such an ACT goes as 0 does, which is less and costs less,
         * so it is only counted among the ways.
         */
        private void explore(Rock rock, int depth, int told, int ways) {
            if (depth >= length) {
                weigh(told, ways, ahead[depth].score - ahead[0].score, ahead[depth].home);
                return;
            }
            int stirring = rock.stirring(ahead[depth]);
            int alike = 1 + rock.count - Integer.bitCount(stirring);
            for (int act = 0; act <= rock.count; act++) {
                if (act == 0 || (stirring >> act - 1 & 1) == 1) {
                    acts[depth] = act;
                    ahead[depth + 1].become(ahead[depth]);
                    rock.pass(ahead[depth + 1], act);
                    explore(rock, depth + 1, act == 0 ? told : told + 1, act == 0 ? ways * alike : ways);
                }
            }
        }

        /** PLANS come with the lesser ACT first, so the FIRST of the BEST is the one that is there already. */
        private void weigh(int told, int alike, int worth, int home) {
            if (worth > best) {
                best = worth;
                ways = 0;
                System.arraycopy(acts, 0, first, 0, PLAN);
            }
            if (worth == best) {
                ways += alike;
            }
            if ((home & wanted) == wanted && (fewest == NONE || told < fewest)) {
                fewest = told;
            }
            everHome |= home;
        }

        /** The VALUE of a GAME; acts[0] is then the least ACT that comes to it. */
        int duelOf(Rock rock, int n) {
            begin(rock, n);
            return duel(rock, 0);
        }

        private int duel(Rock rock, int depth) {
            if (depth >= length) {
                return 0;
            }
            boolean wantsMost = depth % 2 == 0;
            int value = 0;
            int stirring = rock.stirring(ahead[depth]);
            for (int act = 0; act <= rock.count; act++) {
                if (act == 0 || (stirring >> act - 1 & 1) == 1) {
                    ahead[depth + 1].become(ahead[depth]);
                    int worth = rock.pass(ahead[depth + 1], act) + duel(rock, depth + 1);
                    if (act == 0 || (wantsMost ? worth > value : worth < value)) {
                        value = worth;
                        acts[depth] = act;
                    }
                }
            }
            return value;
        }
    }

    /** REPORTS, and the LONE SHIPS they may be of, numbered by KIND, then TRIM, then how far OFF. */
    private static final class Reports {
        static final int STRANGERS = 500;

        final int[] behinds = new int[REPORTS];
        final int[] askeds = new int[REPORTS];
        final int[] leasts = new int[REPORTS];
        final int[] mosts = new int[REPORTS];
        int count = 0;

        void become(Reports other) {
            System.arraycopy(other.behinds, 0, behinds, 0, REPORTS);
            System.arraycopy(other.askeds, 0, askeds, 0, REPORTS);
            System.arraycopy(other.leasts, 0, leasts, 0, REPORTS);
            System.arraycopy(other.mosts, 0, mosts, 0, REPORTS);
            count = other.count;
        }

        int file(int behind, int asked, int least, int most) {
            int k = count;
            behinds[k] = behind;
            askeds[k] = asked;
            leasts[k] = least;
            mosts[k] = most;
            count++;
            return k;
        }

        static int kindOf(int stranger) {
            return 1 + stranger / 100;
        }

        static int trimOf(int stranger) {
            return stranger / 10 % 10;
        }

        static int offOf(int stranger) {
            return 9 * (stranger % 10 + 1);
        }

        private int latest() {
            int latest = -1;
            for (int r = 0; r < count; r++) {
                latest = Math.max(latest, behinds[r]);
            }
            return latest;
        }

        /** The REPORTS that are not so by this LONE SHIP, as a set. */
        int wrongFor(int stranger, int[] lights) {
            int kind = kindOf(stranger);
            int off = offOf(stranger);
            int latest = Math.min(latest(), LIGHTS - 1);
            int paid = 0;
            int wrong = 0;
            for (int watch = 0; watch <= latest; watch++) {
                wrong |= wrongBehind(watch, off, paid);
                if (off >= 1 && off <= reachesAlone(kind, trimOf(stranger), lights[watch])) {
                    paid++;
                }
                off = Math.max(0, off - nearsAlone(kind, lights[watch], watch));
            }
            return wrong;
        }

        private int wrongBehind(int watches, int off, int paid) {
            int wrong = 0;
            for (int r = 0; r < count; r++) {
                int seen = askeds[r] == 0 ? off : paid;
                if (behinds[r] == watches && (seen < leasts[r] || seen > mosts[r])) {
                    wrong |= 1 << r;
                }
            }
            return wrong;
        }
    }

    /** SHEETS and SHELVES. Of a row on a SHELF only its sort and size are asked, so these are all it keeps. */
    private static final class Host {
        private static final int HOLDS_NOTHING = 0, HOLDS_SHIP = 1, HOLDS_ROW = 2;

        private final int[] sorts = new int[SHEETS];
        private final int[] sizes = new int[SHEETS];
        private final int[] items = new int[SHEETS * ITEMS];
        private final int[] holds = new int[SHELVES];
        private final int[] shelfShips = new int[SHELVES];
        private final int[] shelfSorts = new int[SHELVES];
        private final int[] shelfSizes = new int[SHELVES];

        Host() {
            Arrays.fill(sorts, MISSING);
        }

        static boolean hasSheet(int sheet) {
            return sheet >= 0 && sheet < SHEETS;
        }

        static boolean hasShelf(int shelf) {
            return shelf >= 0 && shelf < SHELVES;
        }

        boolean isMissing(int sheet) {
            return sorts[sheet] == MISSING;
        }

        boolean hasItem(int sheet, int i) {
            return i >= 0 && i < sizes[sheet];
        }

        /** Why a SHEET can't be taken for a sort; 0 if it can. */
        int refusalOf(int sheet, int sort) {
            if (isMissing(sheet)) {
                return NOTHING;
            }
            return sorts[sheet] == sort ? 0 : OTHER_SORT;
        }

        void lay(int sheet, int sort, int n) {
            sorts[sheet] = sort;
            sizes[sheet] = sort == MISSING ? 0 : n;
            Arrays.fill(items, sheet * ITEMS, (sheet + 1) * ITEMS, 0);
        }

        int get(int sheet, int i) {
            return items[sheet * ITEMS + i];
        }

        void put(int sheet, int i, int v) {
            items[sheet * ITEMS + i] = narrowed(sorts[sheet], v);
        }

        /** A long is written from an int and read as one, so an int holds it. */
        private static int narrowed(int sort, int v) {
            switch (sort) {
                case 0: return (byte) v;
                case 1: return (short) v;
                case 4: return v != 0 ? 1 : 0;
                default: return v;
            }
        }

        int holdShip(int shelf, int k) {
            holds[shelf] = HOLDS_SHIP;
            shelfShips[shelf] = k;
            return 1;
        }

        int holdRow(int shelf, int sheet) {
            holds[shelf] = isMissing(sheet) ? HOLDS_NOTHING : HOLDS_ROW;
            shelfSorts[shelf] = sorts[sheet];
            shelfSizes[shelf] = sizes[sheet];
            return 1;
        }

        int holdNothing(int shelf) {
            holds[shelf] = HOLDS_NOTHING;
            return 1;
        }

        boolean holdsRow(int shelf) {
            return holds[shelf] == HOLDS_ROW;
        }

        int sortOn(int shelf) {
            return shelfSorts[shelf];
        }

        int sizeOn(int shelf) {
            return shelfSizes[shelf];
        }

        /** The number of the SHIP there, who may be gone since; NONE, if it holds no SHIP. */
        int shipOn(int shelf) {
            return holds[shelf] == HOLDS_SHIP ? shelfShips[shelf] : NONE;
        }
    }

    /** A SHIP as a thing of its KIND, with its ACTS. The bodies of a KIND above are methods of their own. */
    private static final class Thing {
        private static final int TRACE = 30;

        final int[] bodies = new int[TRACE];
        int traceCount = 0;
        boolean parted = false;
        private int kind = 0;
        private int n = 0;
        private int a = 0;

        void stand(int newKind, int number, int lane) {
            kind = newKind;
            n = number;
            a = lane;
        }

        void forgetTrace() {
            traceCount = 0;
            parted = false;
        }

        /** Once parted by 0 the ACT is at its end: what is still reckoned then has not run. */
        private void begin(int body) {
            if (!parted && traceCount < TRACE) {
                bodies[traceCount] = body;
                traceCount++;
            }
        }

        int sights(int x) {
            switch (kind) {
                case TENDER:
                    begin(20);
                    return shipSights(x) ^ 21;
                case COLLIER:
                    begin(50);
                    return shipSights(x + 13);
                default:
                    return shipSights(x);
            }
        }

        private int shipSights(int x) {
            begin(10);
            return x * 9 - n;
        }

        int tacks(int x) {
            switch (kind) {
                case COASTER:
                case COLLIER:
                    begin(30);
                    return shipTacks(x) * 2;
                case CAPTAIN:
                    begin(60);
                    return 0 - shipTacks(x);
                default:
                    return shipTacks(x);
            }
        }

        private int shipTacks(int x) {
            begin(11);
            return sights(x) - 3 * a;
        }

        int sounds(int x) {
            switch (kind) {
                case BRIG:
                    return brigSounds(x);
                case CAPTAIN:
                    begin(61);
                    return brigSounds(x) ^ sights(n);
                default:
                    return shipSounds(x);
            }
        }

        private int brigSounds(int x) {
            begin(40);
            return shipSounds(x) + 7;
        }

        private int shipSounds(int x) {
            begin(12);
            int by = n + a - 5;
            if (by == 0) {
                parted = true;
                return 0;
            }
            return x % by;
        }

        int lands(int x) {
            if (kind == COLLIER) {
                begin(51);
                return shipLands(x) - tacks(a);
            }
            return shipLands(x);
        }

        private int shipLands(int x) {
            begin(13);
            return tacks(x) + sounds(x);
        }
    }
}
