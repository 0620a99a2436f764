import java.util.function.Consumer;
import java.util.function.ToIntFunction;

/**
 * Refusals that hang on how it is (full, none, over, nothing, outside ..), and which comes first of several; each changes
 * nothing, but that THE TAPE is used up by rules(). Those of numbers alone are in RangesTest.
 */
public final class RefusalsTest {
    private static final int BAD = LightHalves.BAD, FULL = LightHalves.FULL;
    private static final int NONE = LightHalves.NONE, STATE = LightHalves.STATE;
    private static final int NO_ROW = -9, NOTHING = -11, OUTSIDE = -12, OTHER_SORT = -13, BELOW_ZERO = -14;
    private static final int PARTED_BY_ZERO = -15, FAR = 1000;
    private static final Due due = new Due("RefusalsTest");

    public static void main(String[] args) {
        constants();
        due.says("Answers below 0, where not told otherwise, are refusals; such a call changes nothing",
            RefusalsTest::changeNothing);
        due.says("(but that THE TAPE is used up by rules())", RefusalsTest::tapeIsUsedUp);
        due.says("BAD (-1) there is no such thing, or a number is not as told", RefusalsTest::noSuchThing);
        due.says("FULL (-2)", RefusalsTest::full);
        due.says("NONE (-3)", RefusalsTest::none);
        due.says("STATE (-4)", RefusalsTest::state);
        due.says("and what the host refuses: -11 nothing where something is asked", RefusalsTest::nothing);
        due.says("-12 a place outside", RefusalsTest::outside);
        due.says("-13 a thing of another sort or kind", RefusalsTest::otherSort);
        due.says("-14 a size below 0", RefusalsTest::belowZero);
        due.says("-15 parted by 0", RefusalsTest::partedByZero);
        due.says("of several the first named", RefusalsTest::firstNamed);
        due.end();
    }

    private static void constants() {
        due.is("BAD", BAD, -1);
        due.is("FULL", FULL, -2);
        due.is("NONE", NONE, -3);
        due.is("STATE", STATE, -4);
    }

    private static void refused(String what, int refusal, ToIntFunction<LightHalves> call) {
        refused(what, refusal, x -> { }, call);
    }

    private static void refused(String what, int refusal, Consumer<LightHalves> ahead, ToIntFunction<LightHalves> call) {
        LightHalves x = Scene.made();
        ahead.accept(x);
        due.is(what, call.applyAsInt(x), refusal);
        isNothing(what, Scene.changedBy(ahead, call::applyAsInt));
    }

    private static void isNothing(String what, String changed) {
        if (!changed.isEmpty()) {
            due.isWrong(what + " changed " + changed);
        }
    }

    private static void changeNothing() {
        refused("2 a KIND of none", BAD, x -> x.ship(0, 9, 5, 1));
        refused("4 of no SHIP", BAD, x -> x.change(4, 1, 9));
        refused("14 over", STATE, x -> x.ends(2), x -> x.watch());
        refused("46 of no SHIP", BAD, x -> x.shelf(0, 0, 4));
    }

    private static void tapeIsUsedUp() {
        LightHalves x = Scene.made();
        due.is("13 bytes ahead", x.many(5), 21);
        due.is("13 a TEXT that ends too soon", x.rules(), -121);
        due.is("13 bytes behind", x.many(5), 0);
        due.is("13 THE RULES as they were", x.many(1), 2);
        isNothing("13 rules() in fault", Scene.but(Scene.changedBy(y -> y.rules()), "THE TAPE"));
        due.is("13 nothing on THE TAPE is no RULE", x.rules(), 0);
        due.is("13 which is in place of all", x.many(1), 0);
    }

    private static void noSuchThing() {
        LightHalves x = new LightHalves();
        for (int k = 0; k < 6; k++) {
            due.is("3 shipOf of no SHIP", x.shipOf(k, 0), BAD);
            due.is("4 change of no SHIP", x.change(k, 1, 1), BAD);
            due.is("5 remake of no SHIP", x.remake(k, 1), BAD);
            due.is("16 when of no SHIP", x.when(k), BAD);
            due.is("17 trimFor of no SHIP", x.trimFor(k), BAD);
            due.is("18 laneFor of no SHIP", x.laneFor(k), BAD);
            due.is("19 rock of no SHIP", x.rock(k), BAD);
            due.is("20 least of no SHIP", x.least(k), BAD);
            due.is("22 convoys of no SHIP", x.convoys(k), BAD);
            due.is("46 shelf of no SHIP", x.shelf(0, 0, k), BAD);
            due.is("26 log of no SHIP", x.log(2, 1 << k), BAD);
            due.is("27 bars of no SHIP", x.bars(2, 1 << k), BAD);
        }
        refused("26 one that is, one that isn't", BAD, y -> y.log(2, 17));
        refused("27 one that is, one that isn't", BAD, y -> y.bars(2, 24));
        refused("26 a set below 0", BAD, y -> y.log(2, Integer.MIN_VALUE + 1));
        refused("27 a set below 0", BAD, y -> y.bars(2, -1));
        refused("30 MOST below LEAST", BAD, y -> y.report(3, 0, 9, 8));
        refused("47 between KINDS and sorts", BAD, y -> y.taken(0, 6));
        refused("47 between KINDS and sorts", BAD, y -> y.taken(1, 9));
    }

    private static void sixShips(LightHalves x) {
        x.ship(1, 9, 5, 1);
        x.ship(2, 9, 5, 1);
    }

    private static void sixReports(LightHalves x) {
        for (int i = 2; i < 6; i++) {
            x.report(i, 0, 0, 50);
        }
    }

    private static void full() {
        refused("2 the seventh SHIP", FULL, RefusalsTest::sixShips, x -> x.ship(1, 9, 5, 1));
        refused("30 the seventh REPORT", FULL, RefusalsTest::sixReports, x -> x.report(3, 0, 5, 50));
        refused("12 byte 201 of THE TAPE", FULL, x -> Due.feed(x, " ".repeat(179)), x -> x.feed(32, 1));
        refused("12 bytes 200 and 201", FULL, x -> Due.feed(x, " ".repeat(178)), x -> x.feed(0x2020, 2));
        refused("12 bytes 194 to 201", FULL, x -> Due.feed(x, " ".repeat(172)), x -> x.feed(-1L, 8));
    }

    private static void none() {
        refused("16 HOME now", NONE, x -> x.when(0));
        refused("16 ON THE ROCK for good", NONE, x -> x.when(1));
        refused("19 HOME", NONE, x -> x.rock(0));
        refused("20 HOME", NONE, x -> x.least(0));
        refused("20 ON THE ROCK", NONE, x -> x.least(1));
        refused("24 it has not so many", NONE, x -> x.ith(3, 3));
        refused("24 it is OVER", NONE, x -> x.ends(2), x -> x.ith(4, 0));
        refused("26 behind none", NONE, x -> x.log(4, 2));
        refused("27 each is so behind some", NONE, x -> x.bars(4, 1));
        refused("29 it is OVER", NONE, x -> x.ends(2), x -> x.play(4));
        for (int what = 1; what <= 3; what++) {
            int of = what;
            refused("32 there are none", NONE, x -> x.report(0, 0, 99, 99), x -> x.lone(of));
        }
        refused("33 some FIT", NONE, x -> x.liar());
        refused("33 no such REPORT", NONE, RefusalsTest::twoThatNoneFits, x -> x.liar());
        refused("49 behind the last", NONE, x -> x.trace(5));
        due.is("49 no TRACE at all", new LightHalves().trace(0), NONE);
        due.is("52 nothing is kept", new LightHalves().again(), NONE);
    }

    private static void twoThatNoneFits(LightHalves x) {
        x.report(0, 0, 98, 98);
        x.report(0, 0, 99, 99);
    }

    private static void state() {
        refused("9 below WATCH", STATE, x -> x.ends(1));
        refused("14 it is OVER", STATE, x -> x.ends(2), x -> x.watch());
        refused("35 it is OVER", STATE, x -> x.ends(2), x -> x.lot());
        refused("45 no ACT", STATE, x -> x.wouldBe(0, 3, 1));
        refused("45 no ACT, below 0", STATE, x -> x.wouldBe(0, 4, 1));
        refused("45 it would be OVER ahead of it", STATE, x -> x.ends(4), x -> x.wouldBe(0, 0, 3));
        refused("45 it is OVER", STATE, x -> x.ends(2), x -> x.wouldBe(0, 0, 1));
    }

    private static void nothing() {
        refused("42 missing", NOTHING, x -> x.write(2, 0, 1));
        for (int sort = 0; sort < 5; sort++) {
            int as = sort;
            refused("43 missing", NOTHING, x -> x.item(2, as, 0));
            refused("47 a SHELF with nothing", NOTHING, x -> x.taken(2, 10 + as));
        }
        for (int kind = 0; kind <= 5; kind++) {
            int as = kind;
            refused("47 a SHELF with nothing", NOTHING, x -> x.taken(2, as));
        }
        refused("44 missing", NOTHING, x -> x.goAll(2, 0, 1));
        refused("44 missing, none asked", NOTHING, x -> x.goAll(2, 0, 0));
        refused("45 missing", NOTHING, x -> x.wouldBe(2, 0, 1));
        refused("45 missing, none asked", NOTHING, x -> x.wouldBe(2, 0, 0));
        refused("47 its SHIP is gone", NOTHING, x -> x.again(), x -> x.taken(0, 0));
    }

    private static void outside() {
        refused("42 behind the last", OUTSIDE, x -> x.write(3, 2, 1));
        refused("43 behind the last", OUTSIDE, x -> x.item(3, 3, 2));
        refused("42 of an empty one", OUTSIDE, x -> x.sheet(3, 2, 0), x -> x.write(3, 0, 1));
        refused("43 of an empty one", OUTSIDE, x -> x.sheet(3, 2, 0), x -> x.item(3, 2, 0));
        refused("44 of an empty one", OUTSIDE, x -> x.sheet(3, 0, 0), x -> x.goAll(3, 0, 1));
        refused("45 of an empty one", OUTSIDE, x -> x.sheet(3, 0, 0), x -> x.wouldBe(3, 0, 1));
        refused("44 nothing stood ahead", OUTSIDE, x -> x.goAll(0, -1, 2));
        refused("45 behind the last ACT", OUTSIDE, x -> x.write(0, 3, 0), x -> x.wouldBe(0, 5, 1));
        LightHalves x = Scene.made();
        due.is("44 outside behind three ACTS", x.goAll(0, 0, 6), OUTSIDE);
        due.is("44 what stood ahead was done", x.state(0), 2 + 3);
    }

    private static void otherSort() {
        int[] sheets = {0, 1, 3};
        int[] sorts = {0, 1, 3};
        for (int i = 0; i < 3; i++) {
            for (int sort = 0; sort < 5; sort++) {
                int sheet = sheets[i];
                int as = sort;
                if (as != sorts[i]) {
                    refused("43 SHEET " + sheet + " for sort " + as, OTHER_SORT, x -> x.item(sheet, as, 0));
                }
            }
        }
        refused("44 shorts", OTHER_SORT, x -> x.goAll(1, 0, 1));
        refused("44 longs, none asked", OTHER_SORT, x -> x.goAll(3, 0, 0));
        refused("44 booleans", OTHER_SORT, x -> x.sheet(3, 4, 2), x -> x.goAll(3, 0, 1));
        refused("45 shorts", OTHER_SORT, x -> x.wouldBe(1, 0, 1));
        refused("45 ints, none asked", OTHER_SORT, x -> x.sheet(3, 2, 2), x -> x.wouldBe(3, 0, 0));
        refused("47 a brig for a captain", OTHER_SORT, x -> x.taken(0, 5));
        refused("47 a brig for a coaster", OTHER_SORT, x -> x.taken(0, 2));
        refused("47 a SHIP for a row", OTHER_SORT, x -> x.taken(0, 10));
        refused("47 a row for a SHIP", OTHER_SORT, x -> x.taken(1, 0));
        refused("47 a row for one of another sort", OTHER_SORT, x -> x.taken(1, 10));
    }

    private static void belowZero() {
        for (int sort = 0; sort < 5; sort++) {
            int of = sort;
            refused("41 sort " + sort, BELOW_ZERO, x -> x.sheet(1, of, -1));
        }
    }

    private static void partedByZero() {
        LightHalves x = Scene.made();
        x.change(2, 3, 3);
        for (int with : new int[] {0, 1, -1, Integer.MIN_VALUE, Integer.MAX_VALUE}) {
            due.is("48 sounds by 2 + 3 - 5", x.act(0, 2, with), PARTED_BY_ZERO);
            due.is("48 lands by 2 + 3 - 5", x.act(0, 3, with), PARTED_BY_ZERO);
        }
        isNothing("48 sounds", Scene.but(Scene.changedBy(y -> y.change(2, 3, 3), y -> y.act(0, 2, 7)), "trace"));
    }

    private static void firstNamed() {
        refused("2 BAD ahead of FULL", BAD, RefusalsTest::sixShips, x -> x.ship(6, 9, 5, 1));
        refused("2 BAD ahead of FULL", BAD, RefusalsTest::sixShips, x -> x.ship(1, 9, 5, 6));
        refused("12 BAD ahead of FULL", BAD, x -> Due.feed(x, " ".repeat(179)), x -> x.feed(32, 9));
        refused("12 BAD ahead of FULL", BAD, x -> Due.feed(x, " ".repeat(179)), x -> x.feed(32, 0));
        refused("30 BAD ahead of FULL", BAD, RefusalsTest::sixReports, x -> x.report(3, 0, 9, 8));
        refused("30 BAD ahead of FULL", BAD, RefusalsTest::sixReports, x -> x.report(16, 0, 8, 9));
        refused("9 BAD ahead of STATE", BAD, x -> x.ends(0));
        refused("24 BAD ahead of NONE", BAD, x -> x.ith(0, 4));
        refused("24 BAD ahead of NONE", BAD, x -> x.ith(5, 3));
        refused("24 BAD ahead of NONE", BAD, x -> x.ends(2), x -> x.ith(-1, 0));
        refused("26 BAD ahead of NONE", BAD, x -> x.log(5, 2));
        refused("27 BAD ahead of NONE", BAD, x -> x.bars(5, 0));
        refused("28 BAD, OVER too", BAD, x -> x.ends(2), x -> x.game(5));
        refused("29 BAD ahead of NONE", BAD, x -> x.ends(2), x -> x.play(0));
        refused("32 BAD ahead of NONE", BAD, x -> x.report(0, 0, 99, 99), x -> x.lone(4));
        refused("41 BAD ahead of -14, SHEET", BAD, x -> x.sheet(4, 0, -1));
        refused("41 BAD ahead of -14, sort", BAD, x -> x.sheet(0, 5, -1));
        refused("41 BAD ahead of -14, sort", BAD, x -> x.sheet(0, -2, -1));
        refused("42 BAD ahead of -12", BAD, x -> x.write(4, -1, 1));
        refused("42 -11 ahead of -12", NOTHING, x -> x.write(2, -1, 1));
        refused("43 BAD ahead of -11", BAD, x -> x.item(2, 5, 0));
        refused("43 BAD ahead of -13", BAD, x -> x.item(1, -1, 0));
        refused("43 BAD ahead of -12", BAD, x -> x.item(-1, 0, FAR));
        refused("43 -13 ahead of -12", OTHER_SORT, x -> x.item(1, 0, FAR));
        refused("43 -11 ahead of -12", NOTHING, x -> x.item(2, 0, FAR));
        refused("47 BAD ahead of -13", BAD, x -> x.taken(4, 5));
        refused("47 BAD ahead of -11", BAD, x -> x.taken(2, 15));
        refused("46 BAD, all is wrong", BAD, x -> x.shelf(4, 3, 9));
        refused("38 -9, both are wrong", NO_ROW, x -> x.row(3, 3));
        refused("39 -9, both are wrong", NO_ROW, x -> x.alterRow(-1, -1, 4));
        firstOfItems("44 goAll", (x, sheet, i, n) -> x.goAll(sheet, i, n));
        firstOfItems("45 wouldBe", (x, sheet, i, n) -> x.wouldBe(sheet, i, n));
        refused("45 by items: no ACT ahead of one outside", STATE, x -> x.wouldBe(0, 3, 20));
        refused("45 by items: outside ahead of no ACT", OUTSIDE, x -> x.wouldBe(0, -1, 6));
        refused("45 one outside that would be OVER, too", OUTSIDE, x -> x.ends(2), x -> x.wouldBe(0, 5, 1));
        refused("45 by items: OVER ahead of one outside", STATE, x -> x.ends(2), x -> x.wouldBe(0, 2, 20));
    }

    private interface Items {
        int of(LightHalves x, int sheet, int i, int n);
    }

    private static void firstOfItems(String call, Items items) {
        refused(call + ": BAD ahead of -11", BAD, x -> items.of(x, 2, 0, 21));
        refused(call + ": BAD ahead of -13", BAD, x -> items.of(x, 1, 0, -1));
        refused(call + ": BAD ahead of -12", BAD, x -> items.of(x, 0, FAR, 21));
        refused(call + ": no such SHEET ahead of -12", BAD, x -> items.of(x, 4, FAR, 1));
        refused(call + ": -13 ahead of -12", OTHER_SORT, x -> items.of(x, 1, FAR, 1));
        refused(call + ": -11 ahead of -12", NOTHING, x -> items.of(x, 2, FAR, 1));
    }
}
