import java.util.function.Consumer;

/**
 * Each number that a call takes: the last that is taken and the first that is refused, on either side, and the farthest
 * ones; what is refused changes nothing.
 */
public final class RangesTest {
    private static final int BAD = LightHalves.BAD, NONE = LightHalves.NONE, STATE = LightHalves.STATE;
    private static final int NO_ROW = -9, OUTSIDE = -12, BELOW_ZERO = -14;
    private static final Due due = new Due("RangesTest");

    /** A call with one number that isn't told yet. */
    private interface Call {
        int with(LightHalves x, int v);
    }

    public static void main(String[] args) {
        ships();
        rock();
        tape();
        watches();
        plans();
        strangers();
        rows();
        sheets();
        acts();
        shelves();
        due.end();
    }

    private static void range(String what, int least, int most, int refusal, Call call) {
        from(what, least, refusal, call);
        upTo(what, most, refusal, call);
    }

    private static void from(String what, int least, int refusal, Call call) {
        taken(what, least, refusal, call);
        refused(what, least - 1, refusal, call);
        refused(what, Integer.MIN_VALUE, refusal, call);
    }

    private static void upTo(String what, int most, int refusal, Call call) {
        taken(what, most, refusal, call);
        refused(what, most + 1, refusal, call);
        refused(what, Integer.MAX_VALUE, refusal, call);
    }

    private static void taken(String what, int v, int refusal, Call call) {
        if (call.with(Scene.made(), v) == refusal) {
            due.isWrong(what + ": " + v + " is refused");
        }
    }

    private static void refused(String what, int v, int refusal, Call call) {
        due.is(what + ": " + v, call.with(Scene.made(), v), refusal);
        changesNothing(what + ": " + v, x -> call.with(x, v));
    }

    private static void changesNothing(String what, Consumer<LightHalves> call) {
        String changed = Scene.changedBy(call);
        if (!changed.isEmpty()) {
            due.isWrong(what + " changed " + changed);
        }
    }

    private static void ships() {
        range("2 ship, KIND", 1, 5, BAD, (x, v) -> x.ship(v, 9, 5, 1));
        range("2 ship, OFF", 0, 99, BAD, (x, v) -> x.ship(1, v, 5, 1));
        range("2 ship, TRIM", 0, 9, BAD, (x, v) -> x.ship(1, 9, v, 1));
        range("2 ship, LANE", 0, 5, BAD, (x, v) -> x.ship(1, 9, 5, v));
        range("3 shipOf, SHIP", 0, 3, BAD, (x, v) -> x.shipOf(v, 1));
        range("3 shipOf, what", 0, 9, BAD, (x, v) -> x.shipOf(1, v));
        range("4 change, SHIP", 0, 3, BAD, (x, v) -> x.change(v, 1, 1));
        range("4 change, what", 1, 4, BAD, (x, v) -> x.change(1, v, 1));
        range("4 change, OFF", 0, 99, BAD, (x, v) -> x.change(1, 1, v));
        range("4 change, TRIM", 0, 9, BAD, (x, v) -> x.change(1, 2, v));
        range("4 change, LANE", 0, 5, BAD, (x, v) -> x.change(1, 3, v));
        range("4 change, HOME", 0, 1, BAD, (x, v) -> x.change(1, 4, v));
        range("5 remake, SHIP", 0, 3, BAD, (x, v) -> x.remake(v, 2));
        range("5 remake, KIND", 1, 5, BAD, (x, v) -> x.remake(1, v));
    }

    private static void rock() {
        range("6 light, WATCH", 0, 15, BAD, (x, v) -> x.light(v, 3));
        range("6 light, LIGHT", 0, 15, BAD, (x, v) -> x.light(3, v));
        range("7 lane, LANE", 0, 5, BAD, (x, v) -> x.lane(v, 1, 3));
        range("7 lane, what", 0, 1, BAD, (x, v) -> x.lane(3, v, 3));
        range("7 lane, CURRENT", 0, 9, BAD, (x, v) -> x.lane(3, 0, v));
        range("7 lane, BUOY", 0, 9, BAD, (x, v) -> x.lane(3, 1, v));
        range("8 laneOf, LANE", 0, 5, BAD, (x, v) -> x.laneOf(v, 0));
        range("8 laneOf, what", 0, 1, BAD, (x, v) -> x.laneOf(3, v));
        range("9 ends", 1, 16, BAD, (x, v) -> x.ends(v));
        taken("9 ends, from WATCH on", 2, STATE, (x, v) -> x.ends(v));
        refused("9 ends, below WATCH", 1, STATE, (x, v) -> x.ends(v));
        range("11 state", 0, 6, BAD, (x, v) -> x.state(v));
    }

    private static void tape() {
        range("12 feed", 1, 8, BAD, (x, v) -> x.feed(0x2020202020202020L, v));
    }

    private static void watches() {
        range("15 on", 0, 16, BAD, (x, v) -> x.on(v));
        range("16 when", 0, 3, BAD, (x, v) -> x.when(v));
        range("17 trimFor", 0, 3, BAD, (x, v) -> x.trimFor(v));
        range("18 laneFor", 0, 3, BAD, (x, v) -> x.laneFor(v));
        range("19 rock", 0, 3, BAD, (x, v) -> x.rock(v));
        range("20 least", 0, 3, BAD, (x, v) -> x.least(v));
        range("21 safe", 0, 16, BAD, (x, v) -> x.safe(v));
        range("22 convoys", -1, 3, BAD, (x, v) -> x.convoys(v));
    }

    private static void plans() {
        range("23 best", 0, 4, BAD, (x, v) -> x.best(v));
        range("24 ith, n", 0, 4, BAD, (x, v) -> x.ith(v, 0));
        range("24 ith, i", 0, 3, BAD, (x, v) -> x.ith(4, v));
        range("25 ways", 0, 4, BAD, (x, v) -> x.ways(v));
        range("26 log, n", 0, 4, BAD, (x, v) -> x.log(v, 1));
        range("26 log, of such as there are", 0, 15, BAD, (x, v) -> x.log(2, v));
        range("27 bars, n", 0, 4, BAD, (x, v) -> x.bars(v, 1));
        range("27 bars, of such as there are", 0, 15, BAD, (x, v) -> x.bars(2, v));
        range("28 game", 1, 4, BAD, (x, v) -> x.game(v));
        range("29 play", 1, 4, BAD, (x, v) -> x.play(v));
        range("37 prove", 0, 4, BAD, (x, v) -> x.prove(v));
    }

    private static void strangers() {
        range("30 report, WATCHES", 0, 15, BAD, (x, v) -> x.report(v, 0, 5, 50));
        range("30 report, asked", 0, 1, BAD, (x, v) -> x.report(3, v, 5, 6));
        range("30 report, LEAST OFF", 0, 99, BAD, (x, v) -> x.report(3, 0, v, 99));
        range("30 report, LEAST paid", 0, 16, BAD, (x, v) -> x.report(3, 1, v, 16));
        range("30 report, MOST OFF from LEAST on", 7, 99, BAD, (x, v) -> x.report(3, 0, 7, v));
        range("30 report, MOST paid from LEAST on", 7, 16, BAD, (x, v) -> x.report(3, 1, 7, v));
        range("30 report, LEAST up to MOST", 0, 7, BAD, (x, v) -> x.report(3, 0, v, 7));
        range("32 lone", 0, 3, BAD, (x, v) -> x.lone(v));
        range("36 times, n", 1, 40, BAD, (x, v) -> x.times(v, 9));
        range("36 times, v", 0, 999, BAD, (x, v) -> x.times(9, v));
    }

    private static void rows() {
        range("38 row, ROW", 0, 2, NO_ROW, (x, v) -> x.row(v, 1));
        range("38 row, what", 0, 2, NO_ROW, (x, v) -> x.row(1, v));
        range("39 alterRow, ROW", 0, 2, NO_ROW, (x, v) -> x.alterRow(v, 1, 5));
        range("39 alterRow, what", 0, 2, NO_ROW, (x, v) -> x.alterRow(1, v, 5));
    }

    private static void sheets() {
        range("41 sheet, SHEET", 0, 3, BAD, (x, v) -> x.sheet(v, 2, 7));
        range("41 sheet, sort", -1, 4, BAD, (x, v) -> x.sheet(0, v, 7));
        for (int sort = 0; sort < 5; sort++) {
            int of = sort;
            upTo("41 sheet of sort " + sort, 40, BAD, (x, v) -> x.sheet(0, of, v));
            from("41 sheet of sort " + sort, 0, BELOW_ZERO, (x, v) -> x.sheet(0, of, v));
        }
        range("42 write, SHEET", 0, 3, BAD, (x, v) -> x.write(v, 0, 9));
        range("42 write, a byte's place", 0, 4, OUTSIDE, (x, v) -> x.write(0, v, 9));
        range("42 write, a short's place", 0, 2, OUTSIDE, (x, v) -> x.write(1, v, 9));
        range("42 write, a long's place", 0, 1, OUTSIDE, (x, v) -> x.write(3, v, 9));
        range("43 item, SHEET", 0, 3, BAD, (x, v) -> x.item(v, 0, 0));
        range("43 item, sort", 0, 4, BAD, (x, v) -> x.item(0, v, 0));
        range("43 item, a byte's place", 0, 4, OUTSIDE, (x, v) -> x.item(0, 0, v));
        range("43 item, a short's place", 0, 2, OUTSIDE, (x, v) -> x.item(1, 1, v));
        range("43 item, a long's place", 0, 1, OUTSIDE, (x, v) -> x.item(3, 3, v));
    }

    private static void acts() {
        range("44 goAll, SHEET", 0, 3, BAD, (x, v) -> x.goAll(v, 0, 1));
        range("44 goAll, n", 0, 20, BAD, (x, v) -> x.goAll(0, 0, v));
        range("44 goAll, place", 0, 4, OUTSIDE, (x, v) -> x.goAll(0, v, 1));
        taken("44 goAll, up to the last", 5, OUTSIDE, (x, v) -> x.goAll(0, 0, v));
        due.is("44 goAll, one more", Scene.made().goAll(0, 0, 6), OUTSIDE);
        range("45 wouldBe, SHEET", 0, 3, BAD, (x, v) -> x.wouldBe(v, 0, 1));
        range("45 wouldBe, n", 0, 20, BAD, (x, v) -> x.wouldBe(0, 0, v));
        range("45 wouldBe, place", 0, 4, OUTSIDE, (x, v) -> x.wouldBe(0, v, 1));
        taken("45 wouldBe, up to the first that is no ACT", 3, STATE, (x, v) -> x.wouldBe(0, 0, v));
        refused("45 wouldBe, with one that is no ACT", 4, STATE, (x, v) -> x.wouldBe(0, 0, v));
    }

    private static void shelves() {
        range("46 shelf, SHELF", 0, 3, BAD, (x, v) -> x.shelf(v, 0, 1));
        range("46 shelf, what", 0, 2, BAD, (x, v) -> x.shelf(1, v, 1));
        range("46 shelf, SHIP", 0, 3, BAD, (x, v) -> x.shelf(1, 0, v));
        range("46 shelf, SHEET", 0, 3, BAD, (x, v) -> x.shelf(1, 1, v));
        for (int v : new int[] {Integer.MIN_VALUE, -1, 4, Integer.MAX_VALUE}) {
            taken("46 shelf, nothing, whatever n", v, BAD, (x, n) -> x.shelf(1, 2, n));
        }
        range("47 taken, SHELF", 0, 3, BAD, (x, v) -> x.taken(v, 0));
        range("47 taken, KIND", 0, 5, BAD, (x, v) -> x.taken(0, v));
        range("47 taken, sort", 10, 14, BAD, (x, v) -> x.taken(0, v));
        range("49 trace", 0, 4, NONE, (x, v) -> x.trace(v));
        range("50 many", 0, 6, BAD, (x, v) -> x.many(v));
    }
}
