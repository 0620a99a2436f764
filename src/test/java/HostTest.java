/** Promises 41 to 50: sheets, shelves, things with acts. */
public final class HostTest {
    private static final int BAD = LightHalves.BAD, STATE = LightHalves.STATE;
    private static final int TENDER = 1, COASTER = 2, COLLIER = 3, BRIG = 4, CAPTAIN = 5;
    private static final Due due = new Due("HostTest");

    public static void main(String[] args) {
        due.says("A SHEET becomes a row of n of a sort, all 0, or missing (sort -1; n counts nothing then): 1. BAD: no"
            + " such SHEET, sort, n above 40; -14.", HostTest::sheet);
        due.says("Item i becomes v, narrowed to its sort (booleans: whether it is not 0): 1. BAD: no such SHEET; -11;"
            + " -12.", HostTest::write);
        due.says("Item i, taken for a sort (0 to 4; of longs the lowest 32 bits; of booleans 1, 0). BAD: no such SHEET,"
            + " sort; -13; -11; -12.", HostTest::item);
        due.says("n (0 to 20) items of a SHEET taken for bytes, from item i on, are ACTS, each followed by a WATCHE"
            + " (what is none, or when it is OVER, is left out): what these WATCHES were WORTH together. BAD: no"
            + " such SHEET, n; -13; -11; -12: what stood ahead was done.", HostTest::goAll);
        due.says("n (0 to 20) items likewise: what they would be WORTH. BAD: no such SHEET, n; -13; -11; then, by"
            + " items, -12; STATE: one is no ACT, or it would be OVER ahead of it.", HostTest::wouldBe);
        due.says("A SHELF holds SHIP n (what 0), the row of SHEET n (1; nothing, if missing), nothing (2): 1. BAD: no"
            + " such SHELF, what, thing.", HostTest::shelf);
        due.says("What a SHELF holds taken for a thing of KIND as (0 to 5, or one under it): its number; for a row of"
            + " sort as - 10 (as 10 to 14): how many items. BAD: no such SHELF, as; -13; -11.", HostTest::taken);
        due.says("(by its number; nothing, if there is no such one at the time)", HostTest::goneFromShelf);
        bodies();
        due.says("An ACT (0 to 3) of the thing on a SHELF, with x. 0, and no TRACE then: no such SHELF, act, nothing, a"
            + " row.", HostTest::act);
        due.says("(-15 if that is 0; that is all that act() answers then)", HostTest::partedByZero);
        due.says("How many: what = 0 SHIPS, 1 RULES, 2 those HOME, 3 REPORTS, 4 ROWS, 5 bytes of THE TAPE, 6 bodies of"
            + " THE TRACE (those kept, 30 at most). BAD: another what.", HostTest::many);
        due.end();
    }

    private static void sheet() {
        LightHalves x = new LightHalves();
        int[][] wrong = {{-1, 0, 1}, {4, 0, 1}, {0, -2, 1}, {0, 5, 1}, {0, 0, 41}, {4, 0, -1}, {0, 5, -1}};
        for (int[] w : wrong) {
            due.is("41 sheet", x.sheet(w[0], w[1], w[2]), BAD);
        }
        due.is("41 size below 0", x.sheet(0, 0, -1), -14);
        due.is("41 size below 0", x.sheet(0, 4, Integer.MIN_VALUE), -14);
        due.is("41 refused, so missing still", x.item(0, 0, 0), -11);
        due.is("41 sheet", x.sheet(0, 2, 40), 1);
        due.is("41 last item", x.write(0, 39, 7), 1);
        due.is("41 behind it", x.write(0, 40, 7), -12);
        due.is("41 a refusal leaves it", x.sheet(0, 2, 41), BAD);
        due.is("41 a refusal leaves it", x.item(0, 2, 39), 7);
        due.is("41 all 0", x.sheet(0, 2, 40), 1);
        due.is("41 all 0", x.item(0, 2, 39), 0);
        due.is("41 none", x.sheet(0, 2, 0), 1);
        due.is("41 none", x.item(0, 2, 0), -12);
        due.is("41 missing, n counts nothing", x.sheet(0, -1, 99), 1);
        due.is("41 missing", x.item(0, 2, 0), -11);
        due.is("41 missing, n counts nothing", x.sheet(0, -1, -99), 1);
    }

    private static void write() {
        LightHalves x = new LightHalves();
        int[][] want = {{44, -56, -1, 0}, {300, 200, -1, 0}, {300, 200, -1, 65536}, {300, 200, -1, 65536}, {1, 1, 1, 1}};
        int[] values = {300, 200, -1, 65536};
        for (int sort = 0; sort < 5; sort++) {
            x.sheet(1, sort, 4);
            for (int i = 0; i < 4; i++) {
                due.is("42 write", x.write(1, i, values[i]), 1);
            }
            for (int i = 0; i < 4; i++) {
                due.is("43 item of sort " + sort, x.item(1, sort, i), want[sort][i]);
            }
            due.is("42 write", x.write(1, 4, 1), -12);
            due.is("42 write", x.write(1, -1, 1), -12);
            due.is("42 write", x.write(1, Integer.MAX_VALUE, 1), -12);
        }
        x.write(1, 0, 0);
        due.is("42 false again", x.item(1, 4, 0), 0);
        x.sheet(2, 1, 1);
        x.write(2, 0, 40000);
        due.is("42 a short", x.item(2, 1, 0), -25536);
        due.is("42 write", x.write(0, 0, 1), -11);
        due.is("42 missing ahead of outside", x.write(0, -1, 1), -11);
        due.is("42 write", x.write(-1, 0, 1), BAD);
        due.is("42 write", x.write(4, 0, 1), BAD);
    }

    private static void item() {
        LightHalves x = new LightHalves();
        for (int sort = 0; sort < 5; sort++) {
            x.sheet(0, sort, 2);
            for (int as = 0; as < 5; as++) {
                due.is("43 item", x.item(0, as, 0), as == sort ? 0 : -13);
                due.is("43 another sort ahead of outside", x.item(0, as, 2), as == sort ? -12 : -13);
                due.is("43 outside", x.item(0, as, -1), as == sort ? -12 : -13);
                due.is("43 missing ahead of outside", x.item(1, as, -1), -11);
            }
        }
        due.is("43 item", x.item(0, -1, 0), BAD);
        due.is("43 item", x.item(0, 5, 0), BAD);
        due.is("43 item", x.item(-1, 0, 0), BAD);
        due.is("43 item", x.item(4, 0, 0), BAD);
    }

    private static void goAll() {
        LightHalves x = Due.twoBrigs();
        Due.acts(x, 2, 3, -1, 1, 0);
        due.is("44 n is 0", x.goAll(3, 99, 0), 0);
        due.is("44 ACTS, others left out", x.goAll(3, 0, 4), 25);
        due.is("44 two WATCHES", x.state(0), 2);
        due.is("44 score", x.state(2), 25);
        due.is("44 outside", x.goAll(3, 4, 2), -12);
        due.is("44 what stood ahead was done", x.state(0), 3);
        due.is("44 what stood ahead was done", x.state(2), 27);
        due.is("44 outside", x.goAll(3, -1, 1), -12);
        due.is("44 outside", x.goAll(3, Integer.MAX_VALUE, 20), -12);
        due.is("44 outside", x.goAll(3, -1, 6), -12);
        due.is("44 nothing done", x.state(0), 3);
        x.ends(4);
        due.is("44 till it is OVER", x.goAll(3, 0, 1) + x.goAll(3, 0, 5), 2);
        due.is("44 over, outside", x.goAll(3, 5, 1), -12);
        due.is("44 goAll", x.goAll(3, 0, -1), BAD);
        due.is("44 goAll", x.goAll(3, 0, 21), BAD);
        due.is("44 goAll", x.goAll(-1, 0, 1), BAD);
        due.is("44 goAll", x.goAll(4, 0, 1), BAD);
        due.is("44 missing", x.goAll(0, 0, 0), -11);
        x.sheet(0, 4, 3);
        due.is("44 another sort", x.goAll(0, 0, 0), -13);
        due.is("44 another sort ahead of outside", x.goAll(0, 9, 1), -13);
        LightHalves y = Due.one(4, 20, 5, 0);
        y.ends(16);
        y.sheet(3, 0, 40);
        y.write(3, 20, 1);
        due.is("44 20 items", y.goAll(3, 20, 20), 12 + 15);
    }

    private static void wouldBe() {
        LightHalves x = Due.twoBrigs();
        Due.acts(x, 2, 1, 0, 3, -1);
        due.is("45 n is 0", x.wouldBe(3, 99, 0), 0);
        due.is("45 wouldBe", x.wouldBe(3, 0, 3), 27);
        due.is("45 changes nothing", x.state(0) + x.state(2) + x.state(4), 0);
        due.is("45 no ACT", x.wouldBe(3, 0, 4), STATE);
        due.is("45 no ACT ahead of outside", x.wouldBe(3, 0, 9), STATE);
        due.is("45 no ACT", x.wouldBe(3, 4, 1), STATE);
        due.is("45 outside", x.wouldBe(3, 5, 1), -12);
        due.is("45 outside", x.wouldBe(3, -1, 2), -12);
        due.is("45 outside", x.wouldBe(3, Integer.MAX_VALUE, 20), -12);
        x.ends(2);
        due.is("45 all there are", x.wouldBe(3, 0, 2), 25);
        due.is("45 over", x.wouldBe(3, 0, 3), STATE);
        Due.acts(x, 0, 0);
        due.is("45 outside ahead of over", x.wouldBe(3, 0, 3), -12);
        due.is("45 wouldBe", x.wouldBe(3, 0, -1), BAD);
        due.is("45 wouldBe", x.wouldBe(3, 0, 21), BAD);
        due.is("45 wouldBe", x.wouldBe(-1, 0, 1), BAD);
        due.is("45 wouldBe", x.wouldBe(4, 0, 1), BAD);
        due.is("45 missing", x.wouldBe(0, 0, 0), -11);
        x.sheet(0, 1, 3);
        due.is("45 another sort", x.wouldBe(0, 9, 1), -13);
    }

    private static void shelf() {
        LightHalves x = Due.twoBrigs();
        int[][] wrong = {{-1, 0, 0}, {4, 0, 0}, {0, -1, 0}, {0, 3, 0}, {0, 0, 2}, {0, 0, -1}, {0, 1, 4}, {0, 1, -1}};
        for (int[] w : wrong) {
            due.is("46 shelf", x.shelf(w[0], w[1], w[2]), BAD);
        }
        due.is("46 a SHIP", x.shelf(0, 0, 1), 1);
        due.is("46 a SHIP", x.taken(0, 4), 1);
        due.is("46 refused", x.shelf(0, 0, 2), BAD);
        due.is("46 a refusal leaves it", x.taken(0, 4), 1);
        due.is("46 a missing row", x.shelf(0, 1, 3), 1);
        due.is("46 a missing row", x.taken(0, 10), -11);
        x.sheet(3, 0, 9);
        due.is("46 a row", x.shelf(0, 1, 3), 1);
        due.is("46 a row", x.taken(0, 10), 9);
        x.sheet(3, 1, 5);
        due.is("46 the row itself stays", x.taken(0, 10), 9);
        due.is("46 a new row", x.shelf(3, 1, 3), 1);
        due.is("46 a new row", x.taken(3, 11), 5);
        due.is("46 nothing, of whatever number", x.shelf(0, 2, -77), 1);
        due.is("46 nothing", x.taken(0, 10), -11);
    }

    private static void taken() {
        LightHalves x = new LightHalves();
        String[] for_ = {"", "01", "02", "023", "04", "045"};
        for (int kind = 1; kind <= 5; kind++) {
            x.ship(kind, 1, 1, 1);
            x.shelf(0, 0, kind - 1);
            for (int as = 0; as <= 5; as++) {
                boolean fits = for_[kind].indexOf((char) ('0' + as)) >= 0;
                due.is("47 KIND " + kind + " taken for " + as, x.taken(0, as), fits ? kind - 1 : -13);
            }
            for (int as = 10; as <= 14; as++) {
                due.is("47 a SHIP taken for a row", x.taken(0, as), -13);
            }
        }
        for (int sort = 0; sort < 5; sort++) {
            x.sheet(0, sort, 3 + sort);
            x.shelf(1, 1, 0);
            for (int as = 0; as <= 5; as++) {
                due.is("47 a row taken for a thing", x.taken(1, as), -13);
                due.is("47 nothing taken for a thing", x.taken(2, as), -11);
            }
            for (int as = 10; as <= 14; as++) {
                due.is("47 sort " + sort + " taken for " + as, x.taken(1, as), as == 10 + sort ? 3 + sort : -13);
                due.is("47 nothing taken for a row", x.taken(2, as), -11);
            }
        }
        for (int as : new int[] {-1, 6, 9, 15, Integer.MAX_VALUE}) {
            due.is("47 taken", x.taken(0, as), BAD);
        }
        due.is("47 taken", x.taken(-1, 0), BAD);
        due.is("47 taken", x.taken(4, 0), BAD);
        x.remake(4, 1);
        due.is("47 remade", x.taken(0, 1), 4);
        due.is("47 remade", x.taken(0, 5), -13);
    }

    private static void goneFromShelf() {
        LightHalves x = Due.one(4, 20, 5, 0);
        x.keep();
        x.ship(1, 20, 5, 0);
        x.shelf(0, 0, 1);
        due.is("46 there", x.taken(0, 1), 1);
        x.again();
        due.is("46 no such one at the time", x.taken(0, 1), -11);
        due.is("48 no such one at the time", x.act(0, 0, 4), 0);
        due.trace(x, "48 no such one at the time");
        x.ship(5, 20, 5, 0);
        due.is("46 there is one again", x.taken(0, 5), 1);
    }

    private static void bodies() {
        due.says("0 sights, 1 tacks, 2 sounds, 3 lands", HostTest::fourActs);
        body("BODIES, each with its number: ship: 10 sights: x * 9 - n.", BRIG, 1, 0, 61, 10);
        body("11 tacks: sights(x) - 3 * a.", BRIG, 1, 1, 58, 11, 10);
        body("12 sounds: what x leaves by (n + a - 5)", COASTER, 1, 2, 1, 12);
        body("13 lands: tacks(x) + sounds(x).", TENDER, 1, 3, 40 - 3 + 1, 13, 11, 20, 10, 12);
        body("tender: 20 sights: super.sights(x) ^ 21.", TENDER, 1, 0, 40, 20, 10);
        body("coaster: 30 tacks: super.tacks(x) * 2.", COASTER, 1, 1, 116, 30, 11, 10);
        body("brig: 40 sounds: super.sounds(x) + 7.", BRIG, 1, 2, 8, 40, 12);
        body("collier: 50 sights: super.sights(x + 13).", COLLIER, 1, 0, 178, 50, 10);
        body("51 lands: super.lands(x) - tacks(a).", COLLIER, 1, 3, 350 + 1 - 242, 51, 13, 30, 11, 50, 10, 12, 30, 11, 50, 10);
        body("captain: 60 tacks: 0 - super.tacks(x).", CAPTAIN, 1, 1, -58, 60, 11, 10);
        body("61 sounds: super.sounds(x) ^ sights(n).", CAPTAIN, 1, 2, 8 ^ 16, 61, 40, 12, 10);
    }

    private static void fourActs() {
        LightHalves x = Due.one(BRIG, 20, 5, 0);
        x.shelf(0, 0, 0);
        acts(x, 0, 3, 27, 10);
        acts(x, 1, 3, 27, 11, 10);
        acts(x, 2, 3, 10, 40, 12);
        acts(x, 3, 3, 37, 13, 11, 10, 40, 12);
    }

    /** An ACT, with 7, of a SHIP of this KIND, the number 2, in LANE a. */
    private static void body(String words, int kind, int a, int act, int want, int... trace) {
        LightHalves x = new LightHalves();
        for (int k = 0; k <= 2; k++) {
            x.ship(kind, 20, 5, a);
        }
        x.shelf(0, 0, 2);
        due.says(words, () -> acts(x, act, 7, want, trace));
    }

    private static void acts(LightHalves x, int act, int with, int want, int... trace) {
        String call = "48 act(0, " + act + ", " + with + ")";
        due.is(call, x.act(0, act, with), want);
        due.trace(x, call, trace);
    }

    private static void act() {
        LightHalves x = new LightHalves();
        x.ship(3, 1, 1, 2);
        x.ship(5, 1, 1, 3);
        x.ship(1, 1, 1, 0);
        x.ship(2, 1, 1, 1);
        x.ship(4, 1, 1, 4);
        acts(x, 0, 4, 0);
        x.shelf(0, 0, 0);
        acts(x, 0, 7, 180, 50, 10);
        acts(x, 1, 7, 348, 30, 11, 50, 10);
        acts(x, 2, 7, 1, 12);
        acts(x, 3, 7, 91, 51, 13, 30, 11, 50, 10, 12, 30, 11, 50, 10);
        x.shelf(0, 0, 1);
        acts(x, 0, 5, 44, 10);
        acts(x, 1, 5, -35, 60, 11, 10);
        acts(x, 2, -10, 15, 61, 40, 12, 10);
        acts(x, 2, Integer.MIN_VALUE, 15, 61, 40, 12, 10);
        acts(x, 3, 5, -20, 13, 60, 11, 10, 61, 40, 12, 10);
        x.shelf(0, 0, 2);
        acts(x, 0, 4, 55, 20, 10);
        acts(x, 1, 4, 55, 11, 20, 10);
        acts(x, 2, -8, -2, 12);
        acts(x, 3, 4, 56, 13, 11, 20, 10, 12);
        x.shelf(0, 0, 3);
        acts(x, 1, 2, 24, 30, 11, 10);
        acts(x, 0, Integer.MAX_VALUE, Integer.MAX_VALUE * 9 - 3, 10);
        x.shelf(0, 0, 4);
        acts(x, 2, 10, 8, 40, 12);
        x.remake(4, 1);
        acts(x, 2, 10, 1, 12);
        x.change(4, 3, 3);
        acts(x, 2, 11, 1, 12);
        acts(x, -1, 4, 0);
        acts(x, 2, 11, 1, 12);
        acts(x, 4, 4, 0);
        due.is("48 no such SHELF", x.act(-1, 0, 4) + x.act(4, 0, 4), 0);
        x.sheet(0, 0, 1);
        x.shelf(0, 1, 0);
        acts(x, 0, 4, 0);
    }

    private static void partedByZero() {
        LightHalves x = new LightHalves();
        x.ship(3, 1, 1, 5);
        x.ship(5, 1, 1, 4);
        x.shelf(0, 0, 0);
        acts(x, 0, 7, 180, 50, 10);
        acts(x, 2, 7, -15, 12);
        acts(x, 3, 7, -15, 51, 13, 30, 11, 50, 10, 12);
        acts(x, 1, 0, 204, 30, 11, 50, 10);
        x.shelf(0, 0, 1);
        acts(x, 2, 7, -15, 61, 40, 12);
        acts(x, 3, 7, -15, 13, 60, 11, 10, 61, 40, 12);
    }

    private static void many() {
        LightHalves x = Due.twoBrigs();
        Due.rules(x, "ship if number=7 stand; brig if number=8 hail; tender hail;");
        x.change(1, 4, 1);
        for (int i = 0; i < 4; i++) {
            x.report(i, 0, 0, 9);
        }
        x.prove(4);
        x.prove(3);
        x.feed(0, 5);
        x.shelf(0, 0, 0);
        x.act(0, 3, 1);
        int[] want = {2, 3, 1, 4, 3, 5, 5};
        for (int what = 0; what <= 6; what++) {
            due.is("50 many(" + what + ")", x.many(what), want[what]);
        }
        due.is("50 many", x.many(-1), BAD);
        due.is("50 many", x.many(7), BAD);
    }
}
