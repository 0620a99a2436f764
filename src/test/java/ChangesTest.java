import java.util.function.Consumer;

/** What a call leaves as it is: all, if it is asked; else all but what it is for. */
public final class ChangesTest {
    private static final Due due = new Due("ChangesTest");

    public static void main(String[] args) {
        due.says("What is asked changes nothing, if not told.", ChangesTest::asked);
        due.says("(all is as it was in the end, z, too)", () -> asks("36 times", x -> x.times(40, 5)));
        ships();
        rock();
        rules();
        watches();
        strangers();
        rows();
        host();
        due.says("All but THE TAPE, ROWS, SHEETS, SHELVES, THE TRACE is kept", ChangesTest::kept);
        due.end();
    }

    private static void asks(String what, Consumer<LightHalves> call) {
        String changed = Scene.changedBy(call);
        if (!changed.isEmpty()) {
            due.isWrong(what + " changed [" + changed + "]");
        }
    }

    private static void changes(String what, String names, Consumer<LightHalves> call) {
        changes(what, names, x -> { }, call);
    }

    /** WILLS, LONE SHIPS and LIAR are left out: by these THE RULES and REPORTS are read, which RulesTest and others do. */
    private static void changes(String what, String names, Consumer<LightHalves> ahead, Consumer<LightHalves> call) {
        String changed = Scene.but(Scene.changedBy(ahead, call), "will");
        changed = Scene.but(Scene.but(changed, "lone"), "liar");
        if (!changed.equals(names)) {
            due.isWrong(what + " changed [" + changed + "], due is [" + names + "]");
        }
    }

    private static void asked() {
        for (int i = 0; i < 10; i++) {
            int what = i;
            asks("3 shipOf", x -> x.shipOf(2, what));
            asks("11 state", x -> x.state(what));
            asks("50 many", x -> x.many(what));
        }
        asks("8 laneOf", x -> x.laneOf(0, 1));
        for (int i = 0; i < 4; i++) {
            int k = i;
            asks("16 when", x -> x.when(k));
            asks("17 trimFor", x -> x.trimFor(k));
            asks("18 laneFor", x -> x.laneFor(k));
            asks("19 rock", x -> x.rock(k));
            asks("20 least", x -> x.least(k));
            asks("22 convoys", x -> x.convoys(k - 1));
            asks("24 ith", x -> x.ith(4, k));
            asks("32 lone", x -> x.lone(k));
        }
        asks("15 on", x -> x.on(16));
        asks("21 safe", x -> x.safe(16));
        asks("23 best", x -> x.best(4));
        asks("25 ways", x -> x.ways(4));
        asks("26 log", x -> x.log(4, 9));
        asks("27 bars", x -> x.bars(4, 15));
        asks("28 game", x -> x.game(4));
        asks("29 play", x -> x.play(4));
        asks("33 liar", x -> x.liar());
        asks("38 row", x -> x.row(1, 1));
        asks("40 judge", x -> x.judge());
        asks("43 item", x -> x.item(0, 0, 3));
        asks("45 wouldBe", x -> x.wouldBe(0, 0, 3));
        asks("47 taken", x -> x.taken(0, 4));
        asks("49 trace", x -> x.trace(2));
    }

    private static void ships() {
        changes("2 ship", "home 4, kind 4, lane 4, off 4, trim 4", x -> x.ship(2, 9, 5, 1));
        changes("4 OFF", "off 2", x -> x.change(2, 1, 9));
        changes("4 TRIM", "trim 2", x -> x.change(2, 2, 9));
        changes("4 LANE", "lane 2", x -> x.change(2, 3, 4));
        changes("4 HOME", "home 2", x -> x.change(2, 4, 1));
        changes("4 not HOME", "home 0", x -> x.change(0, 4, 0));
        changes("4 as it is", "", x -> x.change(2, 1, 38));
        changes("5 remake", "kind 2", x -> x.remake(2, 1));
        changes("5 remake one that is HOME", "kind 0", x -> x.remake(0, 5));
    }

    private static void rock() {
        changes("6 the first LIGHT", "light 0", x -> x.light(0, 15));
        changes("6 the last LIGHT", "light 15", x -> x.light(15, 0));
        changes("7 CURRENT", "current 5", x -> x.lane(5, 0, 9));
        changes("7 BUOY", "buoy 5", x -> x.lane(5, 1, 9));
        changes("9 ends", "end", x -> x.ends(16));
        changes("10 anew", "home 0, score, watch", x -> x.anew());
    }

    private static void rules() {
        changes("12 feed", "bytes of THE TAPE", x -> x.feed(32, 1));
        changes("13 rules", "bytes of THE TAPE, many(1) of THE TAPE", x -> x.feed(';', 1), x -> x.rules());
        changes("13 rules of one RULE", "bytes of THE TAPE, many(1), many(1) of THE TAPE", x -> {
            x.rules();
            Due.feed(x, "captain stand;");
        }, x -> x.rules());
    }

    private static void watches() {
        changes("14 watch", "off 2, off 3, watch", x -> x.watch());
        changes("14 watch", "off 2, off 3, score, watch", x -> x.change(1, 4, 1), x -> x.watch());
        changes("14 watch", "home 3, off 2, score, watch", x -> x.change(3, 1, 21), x -> x.watch());
        changes("35 lot", "off 2, off 3, watch, z", x -> x.lot());
        changes("44 goAll", "off 2, off 3, watch", x -> x.goAll(0, 0, 1));
        changes("44 goAll of none", "", x -> x.goAll(0, 0, 0));
        changes("44 goAll of what is no ACT", "", x -> x.goAll(0, 3, 2));
        changes("44 goAll when it is OVER", "", x -> x.ends(2), x -> x.goAll(0, 0, 5));
    }

    private static void strangers() {
        changes("30 report", "many(3)", x -> x.report(0, 0, 63, 99));
        changes("31 forget", "many(3)", x -> x.forget());
        changes("34 seed", "z", x -> x.seed(5));
    }

    private static void rows() {
        changes("37 prove", "row 0 0, row 0 1, row 0 2, row 1 0, row 1 1, row 1 2, row 2 0, row 2 1, row 2 2",
            x -> x.prove(0));
        changes("37 prove", "row 3 0, row 3 1, row 3 2", x -> x.prove(3), x -> x.prove(4));
        changes("39 alterRow", "row 2 0", x -> x.alterRow(2, 0, 7));
        changes("39 alterRow", "row 0 2", x -> x.alterRow(0, 2, 7));
    }

    private static void host() {
        changes("41 one of another sort and size", "item 0 0, item 0 2, item 0 3, item 0 4, sheet 0", x -> x.sheet(0, 4, 3));
        changes("41 missing", "item 1 0, item 1 1, item 1 2, item 1 3, item 1 4, item 1 5, sheet 1", x -> x.sheet(1, -1, 9));
        changes("41 from missing", "item 2 0, item 2 1, item 2 2, item 2 3, item 2 4, item 2 5, sheet 2",
            x -> x.sheet(2, 3, 1));
        changes("42 write", "item 0 4", x -> x.write(0, 4, 5));
        changes("42 write", "item 3 0", x -> x.write(3, 0, 5));
        changes("46 a SHIP", "shelf 2", x -> x.shelf(2, 0, 3));
        changes("46 a row", "shelf 3, shelf 3 of size, shelf 3 of sort", x -> x.shelf(3, 1, 0));
        changes("46 nothing", "shelf 0", x -> x.shelf(0, 2, 0));
        changes("48 act", "trace 0, trace 1, trace 2, trace 3, trace 4", x -> x.act(3, 0, 7));
        changes("48 act of nothing", "trace 0, trace 1, trace 2, trace 3, trace 4", x -> x.act(2, 0, 7));
    }

    private static void kept() {
        String kept = Scene.but(Scene.changedBy(x -> x.keep()), "kept");
        due.is("51 keep changes what again() makes of it, and nothing else: " + kept, kept.equals("again") ? 1 : 0, 1);
        String again = Scene.changedBy(x -> x.again());
        for (String host : new String[] {"bytes of", "row", "trace", "sheet", "item", "shelf 1", "shelf 2", "kept", "again"}) {
            due.is("52 again leaves " + host, (", " + again).contains(", " + host) ? 1 : 0, 0);
        }
    }
}
