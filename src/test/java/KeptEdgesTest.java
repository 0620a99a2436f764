/** Promises 51 and 52: a test of its own for each sentence that names a boundary. */
public final class KeptEdgesTest {
    private static final int FULL = LightHalves.FULL, NONE = LightHalves.NONE, STATE = LightHalves.STATE;
    private static final int BRIG = 4;
    private static final Due due = new Due("KeptEdgesTest");

    public static void main(String[] args) {
        due.says("nothing is kept.", KeptEdgesTest::nothingKept);
        due.says("All but THE TAPE, ROWS, SHEETS, SHELVES, THE TRACE is kept: 1.", KeptEdgesTest::allKept);
        due.says("THE TAPE, ROWS, SHEETS, SHELVES, THE TRACE", KeptEdgesTest::notKept);
        due.says("It becomes what was kept latest", KeptEdgesTest::latest);
        due.says("(which stays): how many SHIPS.", KeptEdgesTest::stays);
        due.says("THE RULES whose KIND is hers or above it, and whose condition holds", KeptEdgesTest::conditions);
        due.says("NONE: nothing is kept.", KeptEdgesTest::none);
        fullAndEmpty();
        due.end();
    }

    private static void nothingKept() {
        LightHalves x = new LightHalves();
        due.is("52 at first", x.again(), NONE);
        x.anew();
        x.forget();
        x.prove(2);
        due.is("52 none of these keeps", x.again(), NONE);
    }

    private static void allKept() {
        LightHalves x = Due.one(BRIG, 20, 5, 2);
        x.keep();
        int[][] changes = {{1, 99}, {2, 9}, {3, 5}, {4, 1}};
        for (int[] of : changes) {
            int was = x.change(0, of[0], of[1]);
            due.is("52 again", x.again(), 1);
            due.is("52 of the SHIP: " + of[0], x.shipOf(0, of[0]), was);
        }
        x.remake(0, 1);
        x.again();
        due.is("52 KIND", x.shipOf(0, 0), BRIG);
        for (int i = 0; i < 16; i++) {
            x.light(i, 15);
        }
        x.again();
        for (int i = 0; i < 16; i++) {
            due.is("52 LIGHT " + i, x.light(i, 3), 6);
        }
        for (int f = 0; f < 6; f++) {
            x.lane(f, 0, 9);
            x.lane(f, 1, 8);
        }
        x.again();
        for (int f = 0; f < 6; f++) {
            due.is("52 CURRENT " + f, x.laneOf(f, 0), 0);
            due.is("52 BUOY " + f, x.laneOf(f, 1), 0);
        }
        x.ends(16);
        x.watch();
        x.seed(9);
        x.report(1, 0, 9, 9);
        Due.rules(x, "ship stand;");
        x.again();
        due.is("52 WATCH", x.state(0), 0);
        due.is("52 END", x.state(1), 12);
        due.is("52 SCORE", x.state(2), 0);
        due.is("52 HOME", x.state(4), 0);
        due.is("52 z", x.seed(9), 1);
        due.is("52 REPORTS", x.many(3), 0);
        due.is("52 RULES", x.many(1), 0);
        due.is("52 WILL", x.shipOf(0, 9), 0);
    }

    private static void notKept() {
        LightHalves x = Due.twoBrigs();
        x.keep();
        Due.feed(x, "brig hail;");
        x.prove(3);
        x.alterRow(2, 1, 77);
        x.sheet(3, 1, 2);
        x.write(3, 1, 300);
        x.shelf(0, 0, 1);
        x.shelf(1, 1, 3);
        x.act(0, 1, 5);
        x.again();
        due.is("52 bytes of THE TAPE", x.many(5), 10);
        due.is("52 ROWS", x.many(4), 3);
        due.is("52 ROWS as altered", x.row(2, 1), 77);
        due.is("52 SHEETS", x.item(3, 1, 1), 300);
        due.is("52 a SHELF's SHIP", x.taken(0, BRIG), 1);
        due.is("52 a SHELF's row", x.taken(1, 11), 2);
        due.trace(x, "52 THE TRACE", 11, 10);
        due.is("52 THE TAPE", x.rules(), 1);
        due.is("52 THE TAPE", x.shipOf(0, 9), 2);
        LightHalves y = Due.twoBrigs();
        y.prove(3);
        Due.feed(y, "brig");
        y.sheet(0, 2, 2);
        y.shelf(0, 0, 1);
        y.keep();
        y.prove(1);
        y.rules();
        y.sheet(0, -1, 0);
        y.shelf(0, 2, 0);
        y.again();
        due.is("52 ROWS don't come back", y.many(4), 1);
        due.is("52 THE TAPE doesn't", y.many(5), 0);
        due.is("52 a SHEET doesn't", y.item(0, 2, 0), -11);
        due.is("52 a SHELF's SHIP doesn't", y.taken(0, 0), -11);
    }

    private static void latest() {
        LightHalves x = new LightHalves();
        for (int k = 0; k <= 6; k++) {
            due.is("51 keep", x.keep(), 1);
            x.ship(BRIG, 20, 5, 0);
            due.is("52 as many as then", x.again(), k);
            x.ship(BRIG, 20, 5, 0);
        }
        x.again();
        due.is("52 the latest of all", x.many(0), 6);
    }

    private static void stays() {
        LightHalves x = Due.twoBrigs();
        x.watch();
        x.keep();
        for (int i = 0; i < 3; i++) {
            Due.watches(x, 3);
            x.change(0, 2, 9);
            x.ship(BRIG, 20, 5, 0);
            x.ship(BRIG, 20, 5, 0);
            Due.rules(x, "ship stand;");
            x.report(0, 0, 99, 99);
            x.light(1, i);
            due.is("52 again", x.again(), 2);
            due.is("52 WATCH", x.state(0), 1);
            due.is("52 SCORE", x.state(2), 12);
            due.is("52 HOME", x.state(4), 1);
            due.is("52 TRIM", x.shipOf(0, 2), 5);
            due.is("52 RULES", x.many(1), 0);
            due.is("52 REPORTS", x.many(3), 0);
            due.is("52 LIGHT", x.state(5), 6);
            due.is("52 and again at once", x.again(), 2);
        }
    }

    private static void conditions() {
        LightHalves x = Due.one(BRIG, 20, 5, 0);
        Due.rules(x, "ship if off = 20 and not trim = 9 stand; ship if off = 99 hail;");
        x.keep();
        Due.rules(x, "ship if off > 0 hail; ship if 1 = 2 enter; brig if trim = 5 enter;");
        due.is("3 another RULE tells", x.shipOf(0, 9), 2);
        for (int i = 0; i < 2; i++) {
            due.is("52 again", x.again(), 1);
            due.is("50 as many RULES", x.many(1), 2);
            due.is("52 the first", x.shipOf(0, 9), 1);
            x.change(0, 1, 99);
            due.is("52 the second", x.shipOf(0, 9), 2);
            x.change(0, 1, 5);
            due.is("52 neither", x.shipOf(0, 9), 0);
            x.rules();
        }
    }

    private static void none() {
        LightHalves x = Due.twoBrigs();
        x.watch();
        due.is("52 nothing is kept", x.again(), NONE);
        due.is("52 so it stays as it is", x.state(0), 1);
        due.is("52 so it stays as it is", x.many(0), 2);
        x.keep();
        due.is("52 now there is", x.again(), 2);
    }

    private static void fullAndEmpty() {
        LightHalves x = new LightHalves();
        x.keep();
        fill(x);
        due.is("52 an empty rock", x.again(), 0);
        due.is("52 no SHIPS", x.many(0), 0);
        due.is("52 no RULES", x.many(1), 0);
        due.is("52 no REPORTS", x.many(3), 0);
        due.is("52 not OVER", x.state(3), 0);
        fill(x);
        x.keep();
        x.anew();
        x.forget();
        x.rules();
        due.is("52 a full one", x.again(), 6);
        due.is("52 six SHIPS", x.ship(BRIG, 20, 5, 0), FULL);
        due.is("52 six REPORTS", x.report(0, 0, 9, 9), FULL);
        due.is("52 eight RULES", x.many(1), 8);
        due.is("52 the eighth tells", x.shipOf(5, 9), 2);
        due.is("52 OVER", x.watch(), STATE);
    }

    private static void fill(LightHalves x) {
        for (int k = 0; k < 6; k++) {
            x.ship(BRIG, 20, 5, k);
            x.report(k, 0, 0, 99);
        }
        Due.rules(x, "captain stand;".repeat(7) + "brig hail;");
        x.ends(1);
        x.watch();
    }
}
