/** Promises 51 and 52: rocks kept. */
public final class KeptTest {
    private static final Due due = new Due("KeptTest");

    public static void main(String[] args) {
        due.says("It becomes what was kept latest (which stays): how many SHIPS. NONE: nothing is kept.",
            KeptTest::again);
        due.says("All but THE TAPE, ROWS, SHEETS, SHELVES, THE TRACE is kept: 1.", KeptTest::notKept);
        due.end();
    }

    private static LightHalves before() {
        LightHalves x = Due.twoBrigs();
        Due.rules(x, "brig if number = 0 and off < 3 stand;");
        x.light(5, 9);
        x.lane(2, 0, 3);
        x.lane(2, 1, 4);
        x.ends(9);
        x.seed(77);
        x.report(1, 0, 7, 7);
        x.watch();
        x.keep();
        return x;
    }

    private static void changeAll(LightHalves x) {
        x.ship(1, 9, 9, 5);
        x.change(0, 1, 2);
        x.change(0, 2, 1);
        x.change(0, 3, 4);
        x.change(0, 4, 0);
        x.remake(0, 2);
        Due.rules(x, "ship hail; ship stand;");
        x.light(5, 1);
        x.lane(2, 0, 8);
        x.lane(2, 1, 7);
        x.seed(5);
        x.forget();
        x.report(0, 1, 0, 16);
        x.report(0, 1, 0, 16);
        x.watch();
        x.ends(14);
    }

    private static void isAsBefore(LightHalves x) {
        int[] state = {1, 9, 12, 0, 1, 6, 0};
        for (int what = 0; what <= 6; what++) {
            due.is("52 state(" + what + ")", x.state(what), state[what]);
        }
        int[] ship = {4, 20, 5, 0, 1};
        for (int what = 0; what < 5; what++) {
            due.is("52 shipOf(0, " + what + ")", x.shipOf(0, what), ship[what]);
        }
        due.is("52 RULES", x.many(1), 1);
        due.is("52 WILL", x.shipOf(1, 9), 0);
        x.change(0, 1, 2);
        due.is("52 WILL", x.shipOf(0, 9), 1);
        due.is("52 SHIPS", x.many(0), 2);
        due.is("52 REPORTS", x.many(3), 1);
        due.is("52 REPORTS", x.lone(0), 20);
        due.is("52 LIGHT", x.light(5, 2), 9);
        due.is("52 CURRENT", x.laneOf(2, 0), 3);
        due.is("52 BUOY", x.laneOf(2, 1), 4);
        due.is("52 z", x.seed(3), 77);
    }

    private static void again() {
        LightHalves none = Due.twoBrigs();
        due.is("52 nothing is kept", none.again(), LightHalves.NONE);
        due.is("52 changes nothing", none.many(0), 2);
        LightHalves x = before();
        changeAll(x);
        due.is("52 again", x.again(), 2);
        isAsBefore(x);
        changeAll(x);
        due.is("52 which stays", x.again(), 2);
        isAsBefore(x);
        x.ship(1, 9, 9, 5);
        due.is("51 keep", x.keep(), 1);
        x.ship(1, 9, 9, 5);
        due.is("52 what was kept latest", x.again(), 3);
    }

    private static void notKept() {
        LightHalves x = before();
        x.feed(0, 3);
        x.prove(2);
        x.sheet(0, 2, 4);
        x.write(0, 1, 44);
        x.shelf(2, 0, 1);
        x.act(2, 1, 5);
        x.again();
        due.is("51 THE TAPE", x.many(5), 3);
        due.is("51 ROWS", x.many(4), 2);
        due.is("51 SHEETS", x.item(0, 2, 1), 44);
        due.is("51 SHELVES", x.taken(2, 4), 1);
        due.trace(x, "51 THE TRACE", 11, 10);
    }
}
