/** SHEETS, SHELVES, ACTS of things and promises 41 to 50: a test of its own for each sentence that names a boundary. */
public final class HostEdgesTest {
    private static final int BAD = LightHalves.BAD, NONE = LightHalves.NONE, STATE = LightHalves.STATE;
    private static final int NOTHING = -11, OUTSIDE = -12, OTHER_SORT = -13, BELOW_ZERO = -14, PARTED_BY_ZERO = -15;
    private static final int BYTES = 0, SHORTS = 1, INTS = 2, LONGS = 3, BOOLEANS = 4, MISSING = -1;
    private static final int SHIP = 0, ROW = 1, EMPTY = 2;
    private static final int TENDER = 1, COASTER = 2, COLLIER = 3, BRIG = 4, CAPTAIN = 5;
    private static final int SIGHTS = 0, TACKS = 1, SOUNDS = 2, LANDS = 3;
    private static final int LOW = Integer.MIN_VALUE, HIGH = Integer.MAX_VALUE;
    private static final Due due = new Due("HostEdgesTest");

    public static void main(String[] args) {
        sheets();
        shelves();
        things();
        due.says("How many: what = 0 SHIPS, 1 RULES, 2 those HOME, 3 REPORTS, 4 ROWS, 5 bytes of THE TAPE", HostEdgesTest::many);
        due.end();
    }

    private static void sheets() {
        due.says("SHEETS 0 to 3 are rows of bytes (sort 0), shorts (1), ints (2), longs (3) or booleans (4), 40 at most,"
            + " or missing (at first).", HostEdgesTest::fortyItems);
        due.says("A SHEET becomes a row of n of a sort, all 0, or missing (sort -1; n counts nothing then): 1.",
            HostEdgesTest::madeAnew);
        due.says("BAD: no such SHEET, sort, n above 40; -14.", HostEdgesTest::sizes);
        due.says("Item i becomes v, narrowed to its sort (booleans: whether it is not 0): 1.", HostEdgesTest::narrowed);
        due.says("BAD: no such SHEET; -11; -12.", HostEdgesTest::writeOutside);
        due.says("(0 to 4; of longs the lowest 32 bits; of booleans 1, 0)", HostEdgesTest::takenForASort);
        due.says("(An item may be as low as these, too.)", HostEdgesTest::lowItems);
        due.says("n (0 to 20) items of a SHEET taken for bytes, from item i on, are ACTS, each followed by a WATCHE",
            HostEdgesTest::goAll);
        due.says("(what is none, or when it is OVER, is left out)", HostEdgesTest::leftOut);
        due.says("-12: what stood ahead was done.", HostEdgesTest::whatStoodAhead);
        due.says("n (0 to 20) items likewise: what they would be WORTH.", HostEdgesTest::wouldBe);
        due.says("then, by items, -12; STATE: one is no ACT, or it would be OVER ahead of it.", HostEdgesTest::byItems);
    }

    private static void shelves() {
        due.says("SHELVES 0 to 3 hold a SHIP (by its number; nothing, if there is no such one at the time), a SHEET's row,"
            + " or nothing (at first).", HostEdgesTest::byItsNumber);
        due.says("A SHELF holds SHIP n (what 0), the row of SHEET n (1; nothing, if missing), nothing (2): 1.",
            HostEdgesTest::shelf);
        due.says("What a SHELF holds taken for a thing of KIND as (0 to 5, or one under it): its number",
            HostEdgesTest::takenForAKind);
        due.says("for a row of sort as - 10 (as 10 to 14): how many items. BAD: no such SHELF, as; -13; -11.",
            HostEdgesTest::takenForARow);
    }

    private static void things() {
        due.says("ACTS of a thing by its KIND, with a number x (ints that wrap)", HostEdgesTest::actsWrap);
        due.says("A SHIP is held as a thing of its KIND; n: its number, a: its LANE.", HostEdgesTest::asSheIsNow);
        due.says("12 sounds: what x leaves by (n + a - 5), below 0 if x is", HostEdgesTest::whatXLeaves);
        due.says("(-15 if that is 0; that is all that act() answers then)", HostEdgesTest::partedByZero);
        due.says("An ACT (0 to 3) of the thing on a SHELF, with x. 0, and no TRACE then: no such SHELF, act, nothing, a row.",
            HostEdgesTest::noTrace);
        due.says("THE TRACE: numbers of the bodies that ran in the latest act(), as they began (left first)",
            HostEdgesTest::latestAct);
        due.says("the first 30 are kept", HostEdgesTest::longestTrace);
        due.says("THE TRACE's i-th body. NONE.", HostEdgesTest::traceOutside);
    }

    private static void fortyItems() {
        LightHalves x = new LightHalves();
        for (int sheet = 0; sheet < 4; sheet++) {
            for (int sort = 0; sort < 5; sort++) {
                due.is("43 missing at first", x.item(sheet, sort, 0), NOTHING);
            }
            due.is("42 missing at first", x.write(sheet, 0, 1), NOTHING);
        }
        for (int sort = 0; sort < 5; sort++) {
            for (int sheet = 0; sheet < 4; sheet++) {
                due.is("41 40 items of sort " + sort, x.sheet(sheet, sort, 40), 1);
                due.is("42 the first", x.write(sheet, 0, 1), 1);
                due.is("42 the last", x.write(sheet, 39, 1), 1);
                due.is("42 behind it", x.write(sheet, 40, 1), OUTSIDE);
                due.is("43 the first", x.item(sheet, sort, 0), 1);
                due.is("43 the last", x.item(sheet, sort, 39), 1);
                due.is("43 behind it", x.item(sheet, sort, 40), OUTSIDE);
                due.is("43 the second", x.item(sheet, sort, 1), 0);
            }
        }
        due.is("41 41 items", x.sheet(0, INTS, 41), BAD);
        due.is("41 SHEET 4", x.sheet(4, INTS, 1), BAD);
        due.is("41 SHEET -1", x.sheet(-1, INTS, 1), BAD);
        due.is("41 sort 5", x.sheet(0, 5, 1), BAD);
        due.is("41 sort -2", x.sheet(0, -2, 1), BAD);
    }

    private static void madeAnew() {
        LightHalves x = new LightHalves();
        due.is("41 ints", x.sheet(0, INTS, 3), 1);
        x.write(0, 2, 9);
        due.is("41 longer", x.sheet(0, INTS, 4), 1);
        due.is("43 all 0", x.item(0, INTS, 2), 0);
        x.write(0, 3, 9);
        due.is("41 shorter", x.sheet(0, INTS, 1), 1);
        due.is("43 what there was", x.item(0, INTS, 3), OUTSIDE);
        due.is("41 longer again", x.sheet(0, INTS, 4), 1);
        due.is("43 all 0", x.item(0, INTS, 3), 0);
        x.write(0, 1, 9);
        due.is("41 of another sort", x.sheet(0, BYTES, 4), 1);
        due.is("43 ints no more", x.item(0, INTS, 1), OTHER_SORT);
        due.is("43 all 0", x.item(0, BYTES, 1), 0);
        for (int n : new int[] {0, 40, 41, -1, LOW, HIGH}) {
            x.sheet(0, BYTES, 4);
            due.is("41 missing, whatever n", x.sheet(0, MISSING, n), 1);
            due.is("43 missing", x.item(0, BYTES, 0), NOTHING);
        }
        due.is("41 missing already", x.sheet(1, MISSING, 0), 1);
        x.sheet(2, BYTES, 2);
        x.write(2, 1, 5);
        x.sheet(1, BYTES, 40);
        x.sheet(3, BYTES, 40);
        due.is("43 another SHEET is as it was", x.item(2, BYTES, 1), 5);
    }

    private static void sizes() {
        LightHalves x = new LightHalves();
        for (int sort = 0; sort < 5; sort++) {
            x.sheet(0, sort, 2);
            due.is("41 41", x.sheet(0, sort, 41), BAD);
            due.is("41 the most", x.sheet(0, sort, HIGH), BAD);
            due.is("41 -1", x.sheet(0, sort, -1), BELOW_ZERO);
            due.is("41 the least", x.sheet(0, sort, LOW), BELOW_ZERO);
            due.is("43 as it was", x.item(0, sort, 1), 0);
            due.is("41 none", x.sheet(0, sort, 0), 1);
            due.is("43 an empty row isn't missing", x.item(0, sort, 0), OUTSIDE);
            due.is("42 an empty row isn't missing", x.write(0, 0, 1), OUTSIDE);
        }
        due.is("41 no such SHEET, and below 0", x.sheet(4, BYTES, -1), BAD);
        due.is("41 no such sort, and below 0", x.sheet(0, 5, -1), BAD);
    }

    private static void narrowed() {
        int[] values = {0, 1, -1, 127, 128, -128, -129, 255, 256, -256, 32767, 32768, -32768, -32769, 65535, 65536, HIGH, LOW};
        int[][] want = {
            {0, 1, -1, 127, -128, -128, 127, -1, 0, 0, -1, 0, 0, -1, -1, 0, -1, 0},
            {0, 1, -1, 127, 128, -128, -129, 255, 256, -256, 32767, -32768, -32768, 32767, -1, 0, -1, 0},
            values,
            values,
            {0, 1, 1, 1, 1, 1, 1, 1, 1, 1, 1, 1, 1, 1, 1, 1, 1, 1}};
        for (int sort = 0; sort < 5; sort++) {
            LightHalves x = new LightHalves();
            x.sheet(2, sort, values.length);
            for (int i = 0; i < values.length; i++) {
                due.is("42 " + values[i] + " as sort " + sort, x.write(2, i, values[i]), 1);
            }
            for (int i = 0; i < values.length; i++) {
                due.is("43 " + values[i] + " as sort " + sort, x.item(2, sort, i), want[sort][i]);
                due.is("42 0 again", x.write(2, i, 0), 1);
                due.is("43 0 again", x.item(2, sort, i), 0);
            }
        }
    }

    private static void writeOutside() {
        LightHalves x = new LightHalves();
        x.sheet(1, SHORTS, 3);
        due.is("42 the last", x.write(1, 2, 7), 1);
        due.is("42 behind it", x.write(1, 3, 7), OUTSIDE);
        due.is("42 -1", x.write(1, -1, 7), OUTSIDE);
        due.is("42 the most", x.write(1, HIGH, 7), OUTSIDE);
        due.is("42 the least", x.write(1, LOW, 7), OUTSIDE);
        due.is("42 missing", x.write(0, 0, 7), NOTHING);
        due.is("42 missing, and outside", x.write(0, 99, 7), NOTHING);
        due.is("42 SHEET 4", x.write(4, 0, 7), BAD);
        due.is("42 SHEET -1", x.write(-1, 0, 7), BAD);
        for (int i = 0; i < 3; i++) {
            due.is("43 item " + i, x.item(1, SHORTS, i), i == 2 ? 7 : 0);
        }
    }

    private static void takenForASort() {
        LightHalves x = new LightHalves();
        for (int sort = 0; sort < 5; sort++) {
            x.sheet(0, sort, 2);
            x.write(0, 1, -1);
            for (int as = 0; as < 5; as++) {
                due.is("43 sort " + sort + " for " + as, x.item(0, as, 1), as != sort ? OTHER_SORT : sort == BOOLEANS ? 1 : -1);
                due.is("43 outside", x.item(0, as, 2), as != sort ? OTHER_SORT : OUTSIDE);
                due.is("43 outside", x.item(0, as, -1), as != sort ? OTHER_SORT : OUTSIDE);
            }
            due.is("43 sort 5", x.item(0, 5, 0), BAD);
            due.is("43 sort -1", x.item(0, -1, 0), BAD);
        }
        x.sheet(0, LONGS, 1);
        x.write(0, 0, LOW);
        due.is("43 of a long below 0", x.item(0, LONGS, 0), LOW);
    }

    private static void lowItems() {
        LightHalves x = new LightHalves();
        for (int sort : new int[] {BYTES, SHORTS, INTS, LONGS}) {
            x.sheet(0, sort, 1);
            for (int low = -16; low < 0; low++) {
                x.write(0, 0, low);
                due.is("43 an item " + low + " of sort " + sort, x.item(0, sort, 0), low);
            }
        }
    }

    private static void goAll() {
        LightHalves x = Due.one(BRIG, 20, 5, 0);
        x.ends(16);
        x.sheet(0, BYTES, 40);
        x.write(0, 39, 1);
        due.is("44 no item", x.goAll(0, 0, 0), 0);
        due.is("44 no item, from anywhere", x.goAll(0, 40, 0) + x.goAll(0, -1, 0) + x.goAll(0, HIGH, 0) + x.goAll(0, LOW, 0), 0);
        due.is("11 no WATCH", x.state(0), 0);
        due.is("44 the last item", x.goAll(0, 39, 1), 12);
        due.is("11 one WATCH", x.state(0), 1);
        due.is("44 20 items, 15 WATCHES", x.goAll(0, 20, 20), 15);
        due.is("11 OVER", x.state(0), 16);
        due.is("44 21", x.goAll(0, 0, 21), BAD);
        due.is("44 -1", x.goAll(0, 0, -1), BAD);
        due.is("44 SHEET 4", x.goAll(4, 0, 1), BAD);
        due.is("44 SHEET -1", x.goAll(-1, 0, 1), BAD);
        x.sheet(1, BOOLEANS, 3);
        due.is("44 booleans are no bytes", x.goAll(1, 0, 1), OTHER_SORT);
        due.is("44 nor if no item is asked", x.goAll(1, 0, 0), OTHER_SORT);
        due.is("44 missing", x.goAll(2, 0, 0), NOTHING);
    }

    private static void leftOut() {
        LightHalves x = new LightHalves();
        for (int k = 0; k < 6; k++) {
            x.ship(BRIG, 20, 5, k);
        }
        Due.acts(x, 7, 6, -1, 127, -128, 1);
        due.is("44 two ACTS of six items", x.goAll(3, 0, 6), 12 + 13);
        due.is("11 two WATCHES", x.state(0), 2);
        due.is("11 SHIPS 5 and 0", x.state(4), 33);
        x.ends(3);
        Due.acts(x, 9, 0, 2, 3);
        due.is("44 one ACT, then it is OVER", x.goAll(3, 0, 4), 2);
        due.is("11 three WATCHES", x.state(0), 3);
        due.is("11 none more", x.state(4), 33);
        due.is("44 OVER", x.goAll(3, 0, 4), 0);
        LightHalves none = new LightHalves();
        Due.acts(none, 1, 0, 2);
        due.is("44 without SHIPS 0 alone is an ACT", none.goAll(3, 0, 3), 0);
        due.is("11 one WATCH", none.state(0), 1);
    }

    private static void whatStoodAhead() {
        LightHalves x = Due.twoBrigs();
        Due.acts(x, 0, 2, 1);
        due.is("44 one more than there are", x.goAll(3, 1, 3), OUTSIDE);
        due.is("11 two were done", x.state(0), 2);
        due.is("11 two were done", x.state(2), 12 + 13);
        due.is("44 the first is outside", x.goAll(3, 3, 1), OUTSIDE);
        due.is("44 the first is outside, others not", x.goAll(3, -1, 2), OUTSIDE);
        due.is("44 the first is outside", x.goAll(3, HIGH, 2), OUTSIDE);
        due.is("44 the first is outside", x.goAll(3, LOW, 2), OUTSIDE);
        due.is("11 none more was done", x.state(0), 2);
        x.ends(2);
        due.is("44 outside, though OVER", x.goAll(3, 2, 2), OUTSIDE);
        x.sheet(3, BYTES, 0);
        due.is("44 an empty row", x.goAll(3, 0, 1), OUTSIDE);
    }

    private static void wouldBe() {
        LightHalves x = Due.one(BRIG, 20, 5, 0);
        x.ends(16);
        x.sheet(0, BYTES, 40);
        x.write(0, 39, 1);
        due.is("45 no item", x.wouldBe(0, 0, 0), 0);
        due.is("45 no item, from anywhere", x.wouldBe(0, 40, 0) + x.wouldBe(0, -1, 0) + x.wouldBe(0, HIGH, 0), 0);
        due.is("45 the last item", x.wouldBe(0, 39, 1), 12);
        due.is("45 16 items, 16 WATCHES", x.wouldBe(0, 20, 16), 0);
        due.is("45 a 17th", x.wouldBe(0, 20, 17), STATE);
        due.is("45 20", x.wouldBe(0, 20, 20), STATE);
        due.is("45 21", x.wouldBe(0, 0, 21), BAD);
        due.is("45 -1", x.wouldBe(0, 0, -1), BAD);
        due.is("45 SHEET 4", x.wouldBe(4, 0, 1), BAD);
        due.is("45 SHEET -1", x.wouldBe(-1, 0, 1), BAD);
        due.is("45 missing", x.wouldBe(2, 0, 0), NOTHING);
        x.sheet(1, BOOLEANS, 3);
        due.is("45 booleans are no bytes", x.wouldBe(1, 0, 0), OTHER_SORT);
        due.is("11 none went by", x.state(0), 0);
        due.is("11 none is HOME", x.state(4), 0);
        Due.watches(x, 14);
        x.sheet(0, BYTES, 3);
        due.is("45 two left: as much as goAll", x.wouldBe(0, 0, 2), x.goAll(0, 0, 2));
    }

    private static void byItems() {
        LightHalves x = Due.twoBrigs();
        Due.acts(x, 1, 2, 3, 0);
        due.is("45 up to the last ACT", x.wouldBe(3, 0, 2), 12 + 13);
        due.is("45 then what is none", x.wouldBe(3, 0, 3), STATE);
        due.is("45 that alone", x.wouldBe(3, 2, 1), STATE);
        due.is("45 what is none ahead of outside", x.wouldBe(3, 2, 3), STATE);
        due.is("45 outside behind an ACT", x.wouldBe(3, 3, 2), OUTSIDE);
        due.is("45 outside ahead of ACTS", x.wouldBe(3, -1, 4), OUTSIDE);
        x.write(3, 2, -1);
        due.is("45 below 0", x.wouldBe(3, 0, 3), STATE);
        x.write(3, 2, 0);
        x.ends(3);
        due.is("45 three WATCHES", x.wouldBe(3, 0, 3), 12 + 13 + 2);
        due.is("45 OVER ahead of the fourth", x.wouldBe(3, 0, 4), STATE);
        due.is("45 OVER ahead of outside", x.wouldBe(3, 0, 5), STATE);
        due.is("45 outside as it would be OVER", x.wouldBe(3, 1, 4), OUTSIDE);
    }

    private static void byItsNumber() {
        LightHalves x = new LightHalves();
        for (int shelf = 0; shelf < 4; shelf++) {
            due.is("47 nothing at first", x.taken(shelf, 0), NOTHING);
            due.is("48 nothing at first", x.act(shelf, SIGHTS, 5), 0);
        }
        x.keep();
        x.ship(BRIG, 20, 5, 0);
        for (int shelf = 0; shelf < 4; shelf++) {
            due.is("46 the SHIP", x.shelf(shelf, SHIP, 0), 1);
            due.is("47 the SHIP", x.taken(shelf, BRIG), 0);
        }
        x.again();
        due.is("47 there is none", x.taken(0, 0), NOTHING);
        due.is("47 there is none", x.taken(0, 10), NOTHING);
        due.is("48 there is none", x.act(0, SIGHTS, 5), 0);
        due.is("46 nor can she be put there", x.shelf(1, SHIP, 0), BAD);
        x.ship(TENDER, 20, 5, 0);
        due.is("47 one of that number", x.taken(0, TENDER), 0);
        due.is("47 is no brig", x.taken(0, BRIG), OTHER_SORT);
        due.is("48 one of that number", x.act(0, SIGHTS, 1), 9 ^ 21);
        due.is("46 SHELF 4", x.shelf(4, SHIP, 0), BAD);
        due.is("46 SHELF -1", x.shelf(-1, SHIP, 0), BAD);
    }

    private static void shelf() {
        LightHalves x = Due.twoBrigs();
        due.is("46 the last SHIP", x.shelf(0, SHIP, 1), 1);
        due.is("46 one more", x.shelf(0, SHIP, 2), BAD);
        due.is("46 -1", x.shelf(0, SHIP, -1), BAD);
        due.is("47 as it was", x.taken(0, 0), 1);
        due.is("46 a missing row", x.shelf(0, ROW, 3), 1);
        due.is("47 is nothing", x.taken(0, 10), NOTHING);
        due.is("46 SHEET 4", x.shelf(0, ROW, 4), BAD);
        due.is("46 SHEET -1", x.shelf(0, ROW, -1), BAD);
        x.sheet(3, BYTES, 0);
        due.is("46 an empty row", x.shelf(0, ROW, 3), 1);
        due.is("47 is something", x.taken(0, 10), 0);
        x.sheet(3, MISSING, 0);
        due.is("47 a row stays, though its SHEET is missing now", x.taken(0, 10), 0);
        due.is("46 nothing", x.shelf(0, EMPTY, HIGH), 1);
        due.is("47 nothing", x.taken(0, 10), NOTHING);
        due.is("46 nothing, nothing yet", x.shelf(0, EMPTY, LOW), 1);
        due.is("46 what 3", x.shelf(0, 3, 0), BAD);
        due.is("46 what -1", x.shelf(0, -1, 0), BAD);
        due.is("47 other SHELVES", x.taken(1, 0), NOTHING);
    }

    private static void takenForAKind() {
        int[][] as = {{0, TENDER}, {0, COASTER}, {0, COASTER, COLLIER}, {0, BRIG}, {0, BRIG, CAPTAIN}};
        LightHalves x = new LightHalves();
        for (int kind = TENDER; kind <= CAPTAIN; kind++) {
            x.ship(kind, 20, 5, 0);
            x.shelf(2, SHIP, kind - 1);
            for (int of = 0; of <= 5; of++) {
                int want = OTHER_SORT;
                for (int fit : as[kind - 1]) {
                    want = fit == of ? kind - 1 : want;
                }
                due.is("47 KIND " + kind + " for " + of, x.taken(2, of), want);
            }
        }
        x.change(4, 4, 1);
        due.is("47 though HOME", x.taken(2, 0), 4);
        for (int wrong : new int[] {-1, 6, 9, 15, LOW, HIGH}) {
            due.is("47 for " + wrong, x.taken(2, wrong), BAD);
            due.is("47 nothing for " + wrong, x.taken(3, wrong), BAD);
        }
    }

    private static void takenForARow() {
        LightHalves x = new LightHalves();
        for (int sort = 0; sort < 5; sort++) {
            for (int n = 0; n <= 40; n += 40) {
                x.sheet(0, sort, n);
                x.shelf(3, ROW, 0);
                for (int as = 0; as < 5; as++) {
                    due.is("47 sort " + sort + " for " + as, x.taken(3, 10 + as), as == sort ? n : OTHER_SORT);
                }
                due.is("47 a row is no thing", x.taken(3, 0), OTHER_SORT);
                due.is("47 a row is no thing", x.taken(3, 5), OTHER_SORT);
            }
        }
        due.is("47 SHELF 4", x.taken(4, 10), BAD);
        due.is("47 SHELF -1", x.taken(-1, 10), BAD);
        for (int as : new int[] {0, 5, 10, 14}) {
            due.is("47 nothing for " + as, x.taken(0, as), NOTHING);
        }
    }

    /** The ACTS as plain reckoning: n is her number, a her LANE. */
    private static int sights(int kind, int n, int x) {
        switch (kind) {
            case TENDER: return x * 9 - n ^ 21;
            case COLLIER: return (x + 13) * 9 - n;
            default: return x * 9 - n;
        }
    }

    private static int tacks(int kind, int n, int a, int x) {
        int plain = sights(kind, n, x) - 3 * a;
        switch (kind) {
            case COASTER:
            case COLLIER: return plain * 2;
            case CAPTAIN: return 0 - plain;
            default: return plain;
        }
    }

    private static int sounds(int kind, int n, int a, int x) {
        int plain = x % (n + a - 5);
        switch (kind) {
            case BRIG: return plain + 7;
            case CAPTAIN: return plain + 7 ^ n * 9 - n;
            default: return plain;
        }
    }

    private static int lands(int kind, int n, int a, int x) {
        int plain = tacks(kind, n, a, x) + sounds(kind, n, a, x);
        return kind == COLLIER ? plain - tacks(kind, n, a, a) : plain;
    }

    private static void actsWrap() {
        int[] with = {LOW, LOW + 1, LOW / 9, LOW / 9 - 1, -14, -13, -1, 0, 1, HIGH / 9, HIGH / 9 + 1, HIGH - 13, HIGH - 12, HIGH};
        for (int kind = TENDER; kind <= CAPTAIN; kind++) {
            for (int a = 0; a <= 5; a++) {
                LightHalves x = new LightHalves();
                int n = (kind + a) % 6;
                for (int k = 0; k <= n; k++) {
                    x.ship(kind, 20, 5, a);
                }
                x.shelf(0, SHIP, n);
                boolean parted = n + a == 5;
                for (int v : with) {
                    String of = "48 KIND " + kind + ", number " + n + ", LANE " + a + ", with " + v;
                    due.is(of + ": sights", x.act(0, SIGHTS, v), sights(kind, n, v));
                    due.is(of + ": tacks", x.act(0, TACKS, v), tacks(kind, n, a, v));
                    due.is(of + ": sounds", x.act(0, SOUNDS, v), parted ? PARTED_BY_ZERO : sounds(kind, n, a, v));
                    due.is(of + ": lands", x.act(0, LANDS, v), parted ? PARTED_BY_ZERO : lands(kind, n, a, v));
                }
            }
        }
        LightHalves x = Due.one(BRIG, 20, 5, 0);
        x.shelf(0, SHIP, 0);
        due.is("48 9 times the most", x.act(0, SIGHTS, HIGH), 2147483639);
        due.is("48 9 times the least", x.act(0, SIGHTS, LOW), LOW);
        x.remake(0, CAPTAIN);
        due.is("48 0 less the least", x.act(0, TACKS, LOW), LOW);
        x.remake(0, COLLIER);
        due.is("48 the most and 13", x.act(0, SIGHTS, HIGH), -2147483540);
        x.remake(0, COASTER);
        due.is("48 twice the least", x.act(0, TACKS, LOW), 0);
    }

    private static void asSheIsNow() {
        LightHalves x = Due.twoBrigs();
        x.shelf(0, SHIP, 1);
        due.is("48 SHIP 1 in LANE 1", x.act(0, TACKS, 2), 18 - 1 - 3);
        x.change(1, 3, 5);
        due.is("48 in LANE 5", x.act(0, TACKS, 2), 18 - 1 - 15);
        x.remake(1, TENDER);
        due.is("48 a tender", x.act(0, TACKS, 2), (17 ^ 21) - 15);
        x.change(1, 4, 1);
        due.is("48 HOME", x.act(0, TACKS, 2), (17 ^ 21) - 15);
    }

    private static void whatXLeaves() {
        LightHalves x = Due.one(COASTER, 20, 5, 0);
        x.shelf(0, SHIP, 0);
        int[][] byMinusFive = {{4, 4}, {5, 0}, {6, 1}, {-4, -4}, {-5, 0}, {-6, -1}, {LOW, -3}, {HIGH, 2}, {0, 0}};
        for (int[] of : byMinusFive) {
            due.is("48 " + of[0] + " by -5", x.act(0, SOUNDS, of[0]), of[1]);
        }
        x.change(0, 3, 4);
        due.is("48 7 by -1", x.act(0, SOUNDS, 7), 0);
        due.is("48 the least by -1", x.act(0, SOUNDS, LOW), 0);
        LightHalves y = new LightHalves();
        for (int k = 0; k < 6; k++) {
            y.ship(COASTER, 20, 5, 5);
        }
        y.shelf(0, SHIP, 5);
        int[][] byFive = {{4, 4}, {5, 0}, {-4, -4}, {-6, -1}, {LOW, -3}, {HIGH, 2}};
        for (int[] of : byFive) {
            due.is("48 " + of[0] + " by 5", y.act(0, SOUNDS, of[0]), of[1]);
        }
        y.shelf(0, SHIP, 1);
        due.is("48 by 1", y.act(0, SOUNDS, HIGH), 0);
    }

    private static void parted(int kind, int act, int... bodies) {
        LightHalves x = Due.one(kind, 20, 5, 5);
        x.shelf(0, SHIP, 0);
        due.is("48 KIND " + kind + ", ACT " + act, x.act(0, act, 7), PARTED_BY_ZERO);
        due.trace(x, "48 KIND " + kind + ", ACT " + act, bodies);
        x.change(0, 3, 4);
        due.is("48 parted by -1 instead", x.act(0, SOUNDS, 7) == PARTED_BY_ZERO ? 1 : 0, 0);
    }

    private static void partedByZero() {
        parted(TENDER, SOUNDS, 12);
        parted(COASTER, SOUNDS, 12);
        parted(COLLIER, SOUNDS, 12);
        parted(BRIG, SOUNDS, 40, 12);
        parted(CAPTAIN, SOUNDS, 61, 40, 12);
        parted(TENDER, LANDS, 13, 11, 20, 10, 12);
        parted(COASTER, LANDS, 13, 30, 11, 10, 12);
        parted(COLLIER, LANDS, 51, 13, 30, 11, 50, 10, 12);
        parted(BRIG, LANDS, 13, 11, 10, 40, 12);
        parted(CAPTAIN, LANDS, 13, 60, 11, 10, 61, 40, 12);
        LightHalves x = Due.one(BRIG, 20, 5, 5);
        x.shelf(0, SHIP, 0);
        due.is("48 sights parts nothing", x.act(0, SIGHTS, 7), 63);
        due.is("48 tacks parts nothing", x.act(0, TACKS, 7), 48);
        due.is("48 an answer may be as low", x.act(0, TACKS, 0), PARTED_BY_ZERO);
        due.trace(x, "48 an answer may be as low", 11, 10);
    }

    private static void noTrace() {
        LightHalves x = Due.one(BRIG, 20, 5, 0);
        x.shelf(0, SHIP, 0);
        x.sheet(0, BYTES, 4);
        x.shelf(1, ROW, 0);
        int[][] none = {{-1, SIGHTS}, {4, SIGHTS}, {LOW, SIGHTS}, {HIGH, SIGHTS}, {0, -1}, {0, 4}, {0, LOW}, {0, HIGH},
            {2, SIGHTS}, {3, LANDS}, {1, SIGHTS}, {1, LANDS}};
        for (int[] of : none) {
            due.is("48 an ACT ahead", x.act(0, LANDS, 1), 9 + 1 + 7);
            due.is("49 its TRACE", x.many(6), 5);
            due.is("48 SHELF " + of[0] + ", ACT " + of[1], x.act(of[0], of[1], 1), 0);
            due.trace(x, "48 SHELF " + of[0] + ", ACT " + of[1]);
        }
    }

    private static void latestAct() {
        LightHalves x = Due.one(CAPTAIN, 20, 5, 0);
        x.shelf(0, SHIP, 0);
        due.trace(x, "49 none yet");
        x.act(0, LANDS, 1);
        due.trace(x, "49 left first", 13, 60, 11, 10, 61, 40, 12, 10);
        x.act(0, SIGHTS, 1);
        due.trace(x, "49 the latest alone", 10);
        x.taken(0, 0);
        x.watch();
        x.again();
        due.trace(x, "49 as it was", 10);
    }

    /** No ACT of any KIND runs more than eleven bodies, so none is ever left out. */
    private static void longestTrace() {
        int longest = 0;
        for (int kind = TENDER; kind <= CAPTAIN; kind++) {
            LightHalves x = Due.one(kind, 20, 5, 0);
            x.shelf(0, SHIP, 0);
            for (int act = SIGHTS; act <= LANDS; act++) {
                x.act(0, act, 5);
                longest = Math.max(longest, x.many(6));
            }
        }
        due.is("49 the most bodies", longest, 11);
        LightHalves x = Due.one(COLLIER, 20, 5, 0);
        x.shelf(0, SHIP, 0);
        x.act(0, LANDS, 5);
        due.trace(x, "49 all of them", 51, 13, 30, 11, 50, 10, 12, 30, 11, 50, 10);
    }

    private static void traceOutside() {
        LightHalves x = Due.one(BRIG, 20, 5, 0);
        x.shelf(0, SHIP, 0);
        due.is("49 none yet", x.trace(0), NONE);
        x.act(0, SOUNDS, 5);
        due.is("49 the first", x.trace(0), 40);
        due.is("49 the last", x.trace(1), 12);
        for (int i : new int[] {-1, 2, 29, 30, LOW, HIGH}) {
            due.is("49 " + i, x.trace(i), NONE);
        }
    }

    private static void many() {
        LightHalves x = new LightHalves();
        for (int k = 0; k < 6; k++) {
            x.ship(COLLIER, 20, 5, 0);
            x.change(k, 4, 1);
            x.report(k, 0, 0, 99);
        }
        Due.rules(x, "ship stand;".repeat(8));
        x.prove(4);
        Due.feed(x, " ".repeat(200));
        x.shelf(0, SHIP, 0);
        x.act(0, LANDS, 5);
        int[] most = {6, 8, 6, 6, 4, 200, 11};
        for (int what = 0; what <= 6; what++) {
            due.is("50 the most of " + what, x.many(what), most[what]);
        }
        due.is("50 7", x.many(7), BAD);
        due.is("50 -1", x.many(-1), BAD);
    }
}
