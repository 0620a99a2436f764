/** Promises 1 to 11: the rock and its ships. */
public final class RockTest {
    private static final int BAD = LightHalves.BAD, FULL = LightHalves.FULL, STATE = LightHalves.STATE;
    private static final Due due = new Due("RockTest");

    public static void main(String[] args) {
        due.says("No SHIPS, RULES, REPORTS; nothing is kept.", RockTest::aNewObject);
        due.says("A SHIP of a KIND 1 to 5: its number. BAD; FULL.", RockTest::ship);
        due.says("Of a SHIP: what = 0 KIND, 1 how far OFF, 2 TRIM, 3 LANE, 4 1 if she is HOME, else 0, 5 what she NEARS"
            + " now (HOME or not), 6 what she REACHES now, 7 what she PAYS now, 8 1 if she MAY enter now, else 0, 9"
            + " WILL as all is now (0 enter, 1 stand, 2 hail). BAD.", RockTest::shipOf);
        lanesCount();
        captainByWatch();
        due.says("How far OFF (what 1), TRIM (2), LANE (3), HOME (4: 0, 1) of a SHIP becomes v: what it was. BAD.",
            RockTest::change);
        due.says("A SHIP becomes one of another KIND (1 to 5): the KIND that it was. BAD.", RockTest::remake);
        due.says("The LIGHT of a WATCH (0 to 15) becomes v (0 to 15): what it was. BAD.", RockTest::lights);
        due.says("The CURRENT of a LANE (what 0), its BUOY (1) becomes v: what it was. BAD.", RockTest::lanes);
        due.says("Of a LANE: what = 0 CURRENT, 1 BUOY. BAD.", RockTest::laneOf);
        due.says("END becomes v: what it was. BAD; STATE: v is below WATCH.", RockTest::ends);
        due.says("WATCH is 0 again, SCORE 0, none is HOME (OFF as she is): what WATCH was.", RockTest::anew);
        due.says("What = 0 WATCH, 1 END, 2 SCORE, 3 1 if it is OVER, else 0, 4 SHIPS that are HOME, as a set, 5 the"
            + " LIGHT of WATCH, 6 how many are ON THE ROCK. BAD.", RockTest::state);
        due.end();
    }

    private static void aNewObject() {
        LightHalves x = new LightHalves();
        for (int what = 0; what <= 6; what++) {
            due.is("1 many(" + what + ")", x.many(what), 0);
        }
        int[] state = {0, 12, 0, 0, 0, 6, 0};
        for (int what = 0; what <= 6; what++) {
            due.is("1 state(" + what + ")", x.state(what), state[what]);
        }
        due.is("1 again", x.again(), LightHalves.NONE);
        due.is("1 seed", x.seed(0), 1);
        for (int i = 0; i < 16; i++) {
            due.is("1 light", x.light(i, 0), 6);
        }
        for (int i = 0; i < 4; i++) {
            due.is("1 item", x.item(i, 0, 0), -11);
            due.is("1 taken", x.taken(i, 0), -11);
        }
    }

    private static void ship() {
        LightHalves x = new LightHalves();
        int[][] wrong = {{0, 1, 1, 1}, {6, 1, 1, 1}, {1, -1, 1, 1}, {1, 100, 1, 1}, {1, 1, -1, 1}, {1, 1, 10, 1},
            {1, 1, 1, -1}, {1, 1, 1, 6}, {Integer.MIN_VALUE, 1, 1, 1}, {1, Integer.MAX_VALUE, 1, 1}};
        for (int[] w : wrong) {
            due.is("2 ship", x.ship(w[0], w[1], w[2], w[3]), BAD);
        }
        due.is("2 many", x.many(0), 0);
        due.is("2 ship", x.ship(1, 0, 0, 0), 0);
        due.is("2 ship", x.ship(5, 99, 9, 5), 1);
        int[] last = {5, 99, 9, 5, 0};
        for (int what = 0; what < 5; what++) {
            due.is("2 shipOf", x.shipOf(1, what), last[what]);
        }
        for (int k = 2; k < 6; k++) {
            due.is("2 ship", x.ship(k, 9, 1, 1), k);
        }
        due.is("2 full", x.ship(1, 1, 1, 1), FULL);
        due.is("2 BAD ahead of FULL", x.ship(0, 1, 1, 1), BAD);
        due.is("2 many", x.many(0), 6);
    }

    /** FLASH 2, DARK 3, each in a LANE of her own. */
    private static LightHalves fleet() {
        LightHalves x = new LightHalves();
        x.light(0, 11);
        x.ship(1, 20, 4, 0);
        x.ship(2, 27, 6, 1);
        x.ship(3, 22, 6, 2);
        x.ship(4, 28, 6, 3);
        x.ship(5, 14, 6, 4);
        x.ship(1, 0, 0, 5);
        return x;
    }

    private static void shipOf() {
        LightHalves x = fleet();
        int[][] want = {
            {1, 20, 4, 0, 0, 6, 20, 10, 1, 0},
            {2, 27, 6, 1, 0, 4, 27, 12, 1, 0},
            {3, 22, 6, 2, 0, 7, 21, 0, 0, 0},
            {4, 28, 6, 3, 0, 6, 28, 12, 1, 0},
            {5, 14, 6, 4, 0, 0, 14, 12, 1, 0},
            {1, 0, 0, 5, 0, 6, 20, 0, 0, 0}};
        for (int k = 0; k < 6; k++) {
            for (int what = 0; what < 10; what++) {
                due.is("3 shipOf(" + k + ", " + what + ")", x.shipOf(k, what), want[k][what]);
            }
        }
        due.is("3 shipOf", x.shipOf(-1, 0), BAD);
        due.is("3 shipOf", x.shipOf(6, 0), BAD);
        due.is("3 shipOf", x.shipOf(0, -1), BAD);
        due.is("3 shipOf", x.shipOf(0, 10), BAD);
        x.light(0, 4);
        due.is("3 half of 25 is cut", x.shipOf(4, 6), 12);
        x.change(1, 4, 1);
        due.is("3 HOME", x.shipOf(1, 4), 1);
        due.is("3 HOME pays nothing", x.shipOf(1, 7), 0);
        due.is("3 HOME may not enter", x.shipOf(1, 8), 0);
        Due.rules(x, "brig hail; tender stand;");
        due.is("3 WILL of a tender", x.shipOf(0, 9), 1);
        due.is("3 who stands may not enter", x.shipOf(0, 8), 0);
        due.is("3 but pays", x.shipOf(0, 7), 10);
        due.is("3 WILL of a captain, as a brig", x.shipOf(4, 9), 2);
        due.is("3 WILL of a coaster", x.shipOf(1, 9), 0);
    }

    private static void lanesCount() {
        LightHalves x = fleet();
        x.lane(0, 0, 5);
        x.lane(0, 1, 9);
        due.is("3 with CURRENT", x.shipOf(0, 5), 11);
        due.is("3 with BUOY", x.shipOf(0, 6), 29);
        x.change(5, 3, 0);
        due.is("3 with another in her LANE", x.shipOf(0, 5), 10);
        x.change(5, 4, 1);
        due.is("3 the other is HOME", x.shipOf(0, 5), 11);
        due.is("3 NEARS though HOME", x.shipOf(5, 5), 10);
        x.light(0, 3);
        x.change(2, 3, 1);
        due.is("3 NEARS 0 at least", x.shipOf(1, 5), 0);
        due.is("3 collier by DARK alone", x.shipOf(2, 5), 2);
    }

    private static void captainByWatch() {
        LightHalves x = Due.one(5, 99, 0, 0);
        int[] want = {0, 5, 5, 0, 5, 5, 0};
        for (int watch = 0; watch < want.length; watch++) {
            due.is("3 captain in WATCH " + watch, x.shipOf(0, 5), want[watch]);
            x.watch();
        }
    }

    private static void change() {
        LightHalves x = Due.one(4, 20, 5, 3);
        int[] was = {0, 20, 5, 3, 0}, most = {0, 99, 9, 5, 1};
        for (int what = 1; what <= 4; what++) {
            due.is("4 change", x.change(0, what, -1), BAD);
            due.is("4 change", x.change(0, what, most[what] + 1), BAD);
            due.is("4 change", x.change(0, what, most[what]), was[what]);
            due.is("4 change", x.shipOf(0, what), most[what]);
            due.is("4 change", x.change(0, what, 0), most[what]);
            due.is("4 change", x.shipOf(0, what), 0);
        }
        due.is("4 change", x.change(0, 0, 1), BAD);
        due.is("4 change", x.change(0, 5, 1), BAD);
        due.is("4 change", x.change(1, 1, 1), BAD);
        due.is("4 change", x.change(-1, 1, 1), BAD);
        x.ship(1, 1, 1, 1);
        due.is("4 change", x.change(1, 4, 1), 0);
        due.is("4 only she is HOME", x.state(4), 2);
    }

    private static void remake() {
        LightHalves x = Due.one(4, 20, 5, 3);
        x.change(0, 4, 1);
        due.is("5 remake", x.remake(0, 5), 4);
        due.is("5 remake", x.remake(0, 1), 5);
        int[] want = {1, 20, 5, 3, 1};
        for (int what = 0; what < 5; what++) {
            due.is("5 shipOf", x.shipOf(0, what), want[what]);
        }
        due.is("5 remake", x.remake(0, 0), BAD);
        due.is("5 remake", x.remake(0, 6), BAD);
        due.is("5 remake", x.remake(1, 1), BAD);
        due.is("5 remake", x.remake(-1, 1), BAD);
    }

    private static void lights() {
        LightHalves x = new LightHalves();
        due.is("6 light", x.light(0, 15), 6);
        due.is("6 light", x.light(0, 0), 15);
        due.is("6 light", x.light(15, 1), 6);
        due.is("6 light", x.light(-1, 1), BAD);
        due.is("6 light", x.light(16, 1), BAD);
        due.is("6 light", x.light(1, -1), BAD);
        due.is("6 light", x.light(1, 16), BAD);
        due.is("6 others are as they were", x.light(1, 1), 6);
        due.is("6 state", x.state(5), 0);
    }

    private static void lanes() {
        LightHalves x = new LightHalves();
        for (int f = 0; f < 6; f++) {
            due.is("7 lane", x.lane(f, 0, 9 - f), 0);
            due.is("7 lane", x.lane(f, 1, f + 1), 0);
        }
        due.is("7 lane", x.lane(2, 0, 0), 7);
        int[][] wrong = {{-1, 0, 0}, {6, 0, 0}, {0, -1, 0}, {0, 2, 0}, {0, 0, -1}, {0, 0, 10}, {0, 1, 10}};
        for (int[] w : wrong) {
            due.is("7 lane", x.lane(w[0], w[1], w[2]), BAD);
        }
        due.is("8 a refusal leaves it", x.laneOf(0, 0), 9);
    }

    private static void laneOf() {
        LightHalves x = new LightHalves();
        for (int f = 0; f < 6; f++) {
            x.lane(f, 0, 9 - f);
            x.lane(f, 1, f + 1);
        }
        for (int f = 0; f < 6; f++) {
            due.is("8 CURRENT", x.laneOf(f, 0), 9 - f);
            due.is("8 BUOY", x.laneOf(f, 1), f + 1);
        }
        due.is("8 laneOf", x.laneOf(-1, 0), BAD);
        due.is("8 laneOf", x.laneOf(6, 0), BAD);
        due.is("8 laneOf", x.laneOf(0, -1), BAD);
        due.is("8 laneOf", x.laneOf(0, 2), BAD);
    }

    private static void ends() {
        LightHalves x = new LightHalves();
        due.is("9 ends", x.ends(0), BAD);
        due.is("9 ends", x.ends(17), BAD);
        due.is("9 ends", x.ends(16), 12);
        due.is("9 ends", x.ends(1), 16);
        due.is("9 ends", x.ends(3), 1);
        x.watch();
        x.watch();
        due.is("9 ends", x.ends(1), STATE);
        due.is("9 BAD ahead of STATE", x.ends(0), BAD);
        due.is("9 ends", x.state(1), 3);
        due.is("9 END may be WATCH", x.ends(2), 3);
        due.is("9 then it is OVER", x.state(3), 1);
    }

    private static void anew() {
        LightHalves x = Due.twoBrigs();
        x.watch();
        x.watch();
        due.is("10 score", x.state(2), 25);
        due.is("10 anew", x.anew(), 2);
        due.is("10 WATCH", x.state(0), 0);
        due.is("10 SCORE", x.state(2), 0);
        due.is("10 HOME", x.state(4), 0);
        due.is("10 OFF as she is", x.shipOf(1, 1), 15);
        due.is("10 END as it is", x.state(1), 12);
    }

    private static void state() {
        LightHalves x = Due.twoBrigs();
        x.ship(1, 0, 0, 2);
        x.ends(1);
        x.light(1, 13);
        due.is("11 on the rock", x.state(6), 1);
        due.is("11 watch", x.watch(), 11);
        int[] want = {1, 1, 11, 1, 1, 13, 1};
        for (int what = 0; what <= 6; what++) {
            due.is("11 state(" + what + ")", x.state(what), want[what]);
        }
        due.is("11 state", x.state(-1), BAD);
        due.is("11 state", x.state(7), BAD);
        x.change(2, 4, 1);
        due.is("11 HOME is not ON THE ROCK", x.state(6), 0);
        LightHalves y = new LightHalves();
        y.ends(16);
        for (int i = 0; i < 16; i++) {
            y.watch();
        }
        due.is("11 WATCH 16", y.state(0), 16);
        due.is("11 behind WATCH 15", y.state(5), 0);
    }
}
