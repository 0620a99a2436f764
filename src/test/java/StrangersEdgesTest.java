/** REPORTS, LONE SHIPS, LOTS and promises 30 to 36: a test of its own for each sentence that names a boundary. */
public final class StrangersEdgesTest {
    private static final int BAD = LightHalves.BAD, FULL = LightHalves.FULL;
    private static final int NONE = LightHalves.NONE, STATE = LightHalves.STATE;
    private static final int COASTER = 2, BRIG = 4, CAPTAIN = 5;
    private static final int OFF = 0, PAID = 1;
    private static final Due due = new Due("StrangersEdgesTest");

    public static void main(String[] args) {
        reports();
        loneShips();
        liars();
        lots();
        due.end();
    }

    private static void reports() {
        due.says("A REPORT (6 at most)", StrangersEdgesTest::sixReports);
        due.says("behind k WATCHES (0 to 15; from WATCH 0 on)", StrangersEdgesTest::behindWatches);
        due.says("she was so far OFF (asked 0; 0 to 99)", StrangersEdgesTest::soFarOff);
        due.says("or in how many WATCHES she would have PAID more than 0, ahead of nearing (1; 0 to 16)",
            StrangersEdgesTest::paid);
        due.says("from LEAST to MOST", StrangersEdgesTest::fromLeastToMost);
        due.says("A REPORT: its number. BAD: also MOST below LEAST; FULL.", StrangersEdgesTest::mostBelowLeast);
        due.says("There are no REPORTS: how many there were.", StrangersEdgesTest::forget);
    }

    private static void loneShips() {
        due.says("A LONE SHIP is a KIND (1 to 5; her number 0), TRIM, how far OFF at first (9, 18, .. 90)",
            StrangersEdgesTest::whichThereAre);
        due.says("in no CURRENT, by no BUOY, told nothing", StrangersEdgesTest::alone);
        due.says("Those that FIT: by which each REPORT is so, by LIGHTS as they are.", StrangersEdgesTest::byLights);
        due.says("of that with the least KIND, of these the least TRIM, of these the least OFF", StrangersEdgesTest::leastThatFits);
        due.says("BAD; NONE (of 1, 2, 3): there are none.", StrangersEdgesTest::noneFits);
    }

    private static void liars() {
        due.says("LIAR: if none FITS, the least REPORT but for which some would.", StrangersEdgesTest::liar);
        due.says("NONE: some FIT; or there is no such REPORT.", StrangersEdgesTest::noLiar);
    }

    private static void lots() {
        due.says("z (an int; 1 at first) becomes z * 1103515245 + 12345", StrangersEdgesTest::zWraps);
        due.says("the ACT in it is what z >>> 16 leaves by how many SHIPS there are and 1", StrangersEdgesTest::actByLot);
        due.says("z becomes v: what it was.", StrangersEdgesTest::seed);
        due.says("A WATCHE by LOT: what it was WORTH. STATE: it is OVER.", StrangersEdgesTest::lastLot);
        due.says("How many of n (1 to 40) times all WATCHES yet by LOT", StrangersEdgesTest::times);
        due.says("each from how it is now (z goes on from one to the next)", StrangersEdgesTest::zGoesOn);
        due.says("are WORTH v (0 to 999) or more", StrangersEdgesTest::orMore);
    }

    /** How many FIT this REPORT alone, by LIGHTS that are all the same. */
    private static int fit(int light, int k, int asked, int least, int most) {
        LightHalves x = new LightHalves();
        for (int watch = 0; watch < 16; watch++) {
            x.light(watch, light);
        }
        due.is("30 report", x.report(k, asked, least, most), 0);
        return x.lone(0);
    }

    private static void sixReports() {
        LightHalves x = new LightHalves();
        for (int i = 0; i < 6; i++) {
            due.is("50 how many ahead", x.many(3), i);
            due.is("30 the number of each", x.report(i, OFF, 0, 99), i);
        }
        due.is("30 the seventh", x.report(1, OFF, 98, 99), FULL);
        due.is("32 it doesn't count", x.lone(0), 500);
        due.is("31 forget", x.forget(), 6);
        for (int i = 0; i < 5; i++) {
            x.report(0, OFF, 0, 99);
        }
        due.is("30 the sixth", x.report(0, OFF, 90, 90), 5);
        due.is("32 it counts", x.lone(0), 50);
    }

    /** Without any light a brig NEARS 3, a captain 3 in ten of 15 WATCHES, the others nothing. */
    private static void behindWatches() {
        due.is("30 behind none, all as at first", fit(0, 0, OFF, 90, 90), 50);
        due.is("30 behind one: 87", fit(0, 1, OFF, 87, 87), 10);
        due.is("30 a captain in WATCH 0 nears nothing", fit(0, 1, OFF, 90, 90), 40);
        due.is("30 behind 15, a brig: 45; with those that near nothing", fit(0, 15, OFF, 45, 45), 40);
        due.is("30 behind 15, a captain: 60", fit(0, 15, OFF, 60, 60), 10);
        due.is("30 behind 14, a brig: 48", fit(0, 14, OFF, 48, 48), 10);
        LightHalves x = new LightHalves();
        due.is("30 -1", x.report(-1, OFF, 0, 99), BAD);
        due.is("30 16", x.report(16, OFF, 0, 99), BAD);
        x.report(15, OFF, 36, 36);
        due.is("32 by LIGHT 6 a collier NEARS 4, a brig 5, tender and coaster 2", x.lone(0), 0);
        x.forget();
        x.light(14, 0);
        x.report(15, OFF, 90 - 14 * 5 - 3, 90 - 14 * 5 - 3);
        int before = x.lone(0);
        due.is("32 a brig: 17 of 90, tender and coaster: 45 less 28", before, 30);
        x.light(15, 15);
        due.is("32 WATCH 15 doesn't count", x.lone(0), before);
        x.light(14, 15);
        due.is("32 WATCH 14 does", x.lone(0), 10);
    }

    private static void soFarOff() {
        due.is("30 99", fit(6, 0, OFF, 99, 99), 0);
        due.is("30 0", fit(6, 0, OFF, 0, 0), 0);
        due.is("30 0 to 99", fit(6, 0, OFF, 0, 99), 500);
        due.is("30 0 behind 15: by 30, by 30, by 60, by 75, by 50", fit(6, 15, OFF, 0, 0), 30 + 30 + 60 + 80 + 50);
        LightHalves x = new LightHalves();
        due.is("30 100", x.report(0, OFF, 0, 100), BAD);
        due.is("30 -1", x.report(0, OFF, -1, 99), BAD);
    }

    private static void paid() {
        due.is("30 behind none, none", fit(6, 0, PAID, 0, 0), 500);
        due.is("30 behind none, one", fit(6, 0, PAID, 1, 16), 0);
        due.is("30 behind one, more than one", fit(6, 1, PAID, 2, 16), 0);
        due.is("30 9 OFF by 9, ahead of nearing", fit(15, 1, PAID, 1, 1), 20 + 22 + 12 + 27 + 11);
        due.is("30 then ON THE ROCK none pays", fit(15, 2, PAID, 2, 2), paidTwice());
        due.is("30 in each of 15: who near nothing", fit(0, 15, PAID, 15, 15), 20 + 22 + 22);
        due.is("30 in each of 15, or one more", fit(0, 15, PAID, 15, 16), 20 + 22 + 22);
        due.is("30 in 16 of 15", fit(0, 15, PAID, 16, 16), 0);
        LightHalves x = new LightHalves();
        due.is("30 17", x.report(0, PAID, 0, 17), BAD);
        due.is("30 17", x.report(0, PAID, 17, 17), BAD);
        due.is("30 -1", x.report(0, PAID, -1, 16), BAD);
        due.is("30 asked 2", x.report(0, 2, 0, 16), BAD);
        due.is("30 asked -1", x.report(0, -1, 0, 16), BAD);
    }

    /** Those who by LIGHT 15 pay in WATCH 0, and aren't ON THE ROCK in WATCH 1. */
    private static int paidTwice() {
        int[] nears = {9, 6, 9, 6, 0};
        int twice = 0;
        for (int kind = 1; kind <= 5; kind++) {
            for (int trim = 0; trim <= 9; trim++) {
                int brig = 10 + 2 * trim + 9;
                int[] reaches = {20, 15 + 2 * trim, 6 + 2 * trim, brig, brig / 2};
                for (int off = 9; off <= 90; off += 9) {
                    int then = off - nears[kind - 1];
                    if (off <= reaches[kind - 1] && then > 0 && then <= reaches[kind - 1]) {
                        twice++;
                    }
                }
            }
        }
        return twice;
    }

    private static void fromLeastToMost() {
        int[][] reports = {{18, 27, 100}, {19, 26, 0}, {18, 26, 50}, {19, 27, 50}, {18, 18, 50}, {17, 17, 0}, {19, 19, 0},
            {0, 8, 0}, {0, 9, 50}, {90, 99, 50}, {91, 99, 0}};
        for (int[] r : reports) {
            due.is("30 from " + r[0] + " to " + r[1], fit(6, 0, OFF, r[0], r[1]), r[2]);
        }
        int once = fit(0, 3, PAID, 1, 1);
        int twice = fit(0, 3, PAID, 2, 2);
        due.is("30 once or twice", fit(0, 3, PAID, 1, 2), once + twice);
        due.is("30 all", fit(0, 3, PAID, 0, 3), 500);
    }

    private static void mostBelowLeast() {
        LightHalves x = new LightHalves();
        due.is("30 one below", x.report(3, OFF, 9, 8), BAD);
        due.is("30 one below", x.report(3, PAID, 1, 0), BAD);
        due.is("30 the same", x.report(3, OFF, 9, 9), 0);
        due.is("30 one above", x.report(3, PAID, 0, 1), 1);
        due.is("50 two", x.many(3), 2);
    }

    private static void forget() {
        LightHalves x = new LightHalves();
        due.is("31 none", x.forget(), 0);
        x.report(0, OFF, 99, 99);
        due.is("32 none fits", x.lone(0), 0);
        due.is("31 one", x.forget(), 1);
        due.is("31 none", x.forget(), 0);
        due.is("32 all fit", x.lone(0), 500);
        due.is("30 the first number again", x.report(0, OFF, 9, 9), 0);
    }

    private static void whichThereAre() {
        due.is("32 five KINDS, ten TRIMS, ten OFF", new LightHalves().lone(0), 500);
        for (int off = 0; off <= 99; off++) {
            due.is("32 " + off + " OFF at first", fit(6, 0, OFF, off, off), off % 9 == 0 && off >= 9 && off <= 90 ? 50 : 0);
        }
        LightHalves x = new LightHalves();
        x.report(1, OFF, 89, 89);
        due.is("32 by 1 none nears", x.lone(0), 0);
        x.forget();
        x.report(1, OFF, 87, 87);
        due.is("32 a ship, by 3, is no LONE SHIP", x.lone(0), 0);
        x.forget();
        x.report(0, OFF, 90, 90);
        x.report(15, OFF, 40, 40);
        due.is("32 KIND 5 is the last", x.lone(1), CAPTAIN);
        x.forget();
        x.report(1, PAID, 1, 1);
        x.report(0, OFF, 36, 99);
        due.is("32 33 is the most that any REACHES", x.lone(0), 0);
    }

    private static void alone() {
        LightHalves x = new LightHalves();
        for (int f = 0; f < 6; f++) {
            x.lane(f, 0, 9);
            x.lane(f, 1, 9);
            x.ship(BRIG, 9, 5, f);
        }
        x.report(1, OFF, 4, 4);
        due.is("32 no CURRENT, none takes 1", x.lone(0), 10);
        x.forget();
        x.report(1, PAID, 1, 1);
        int pays = x.lone(0);
        due.is("32 no BUOY", pays, 20 + 22 + 19 + 20 + 7);
        for (String rule : new String[] {"ship stand;", "ship hail;", "ship if number=0 hail;"}) {
            Due.rules(x, rule);
            due.is("32 WILL doesn't count: " + rule, x.lone(0), pays);
        }
        x.forget();
        x.report(3, OFF, 3, 3);
        int none = x.lone(0);
        x.ends(1);
        x.watch();
        due.is("32 neither END nor WATCH counts", x.lone(0), none);
        due.is("32 9 OFF by 2, 18 OFF by 5, in each of three WATCHES", none, 30);
    }

    private static void byLights() {
        LightHalves x = new LightHalves();
        x.report(1, OFF, 7, 7);
        due.is("32 by 2", x.lone(0), 20);
        x.light(1, 0);
        due.is("32 WATCH 1 comes later", x.lone(0), 20);
        x.light(0, 1);
        due.is("32 by 2 none now", x.lone(0), 0);
        x.light(0, 4);
        due.is("32 a coaster and a collier by 2", x.lone(0), 20);
        x.report(1, OFF, 0, 99);
        x.report(1, OFF, 8, 99);
        due.is("32 each of them, not one", x.lone(0), 0);
    }

    private static void loneIs(LightHalves x, int... want) {
        for (int what = 0; what < 4; what++) {
            due.is("32 lone(" + what + ")", x.lone(what), want[what]);
        }
    }

    private static void leastThatFits() {
        LightHalves x = new LightHalves();
        loneIs(x, 500, 1, 0, 9);
        x.report(1, PAID, 1, 1);
        x.report(0, OFF, 27, 90);
        loneIs(x, 4 + 2 + 3, COASTER, 6, 27);
        x.forget();
        x.report(1, OFF, 85, 85);
        loneIs(x, 10, BRIG, 0, 90);
        x.forget();
        x.report(1, PAID, 0, 0);
        loneIs(x, 500 - 88, 1, 0, 27);
    }

    private static void noneFits() {
        LightHalves x = new LightHalves();
        x.report(0, OFF, 99, 99);
        loneIs(x, 0, NONE, NONE, NONE);
        due.is("32 -1", x.lone(-1), BAD);
        due.is("32 4", x.lone(4), BAD);
    }

    private static void liar() {
        for (int wrong = 0; wrong < 6; wrong++) {
            LightHalves x = new LightHalves();
            for (int i = 0; i < 6; i++) {
                x.report(0, OFF, i == wrong ? 19 : 9, i == wrong ? 26 : 90);
            }
            due.is("32 none FITS", x.lone(0), 0);
            due.is("33 REPORT " + wrong, x.liar(), wrong);
        }
        LightHalves x = new LightHalves();
        x.report(0, OFF, 99, 99);
        due.is("33 the only one", x.liar(), 0);
        x.forget();
        x.report(0, OFF, 0, 0);
        due.is("33 none is ON THE ROCK at first", x.liar(), 0);
        x.forget();
        x.report(0, OFF, 0, 99);
        x.report(0, OFF, 9, 18);
        x.report(0, OFF, 27, 36);
        due.is("33 the least of two", x.liar(), 1);
    }

    private static void noLiar() {
        LightHalves x = new LightHalves();
        due.is("33 no REPORTS", x.liar(), NONE);
        x.report(0, OFF, 90, 90);
        due.is("33 some FIT", x.liar(), NONE);
        x.report(0, OFF, 98, 99);
        due.is("33 one", x.liar(), 1);
        x.report(0, OFF, 98, 99);
        due.is("33 two that are wrong", x.liar(), NONE);
        x.forget();
        x.report(0, OFF, 9, 9);
        x.report(0, OFF, 18, 18);
        x.report(0, OFF, 27, 27);
        due.is("33 any two against one", x.liar(), NONE);
    }

    private static int next(int z) {
        return z * 1103515245 + 12345;
    }

    private static void zWraps() {
        LightHalves x = new LightHalves();
        int z = 1;
        for (int i = 0; i < 12; i++) {
            x.lot();
            z = next(z);
            due.is("34 z behind " + (i + 1), x.seed(z), z);
        }
        int[] edges = {0, -1, Integer.MAX_VALUE, Integer.MIN_VALUE, 1 << 16, -1 << 16};
        int[] then = {12345, 12345 - 1103515245, 1043980748, -2147471303, 1315778617, -1315753927};
        for (int i = 0; i < edges.length; i++) {
            LightHalves y = new LightHalves();
            y.seed(edges[i]);
            y.lot();
            due.is("34 z from " + edges[i], y.seed(0), then[i]);
        }
    }

    /** Coasters without light near nothing, and each that is told is hailed off: so the ACT is seen. */
    private static int actSeen(LightHalves x) {
        int ships = x.many(0);
        for (int k = 0; k < ships; k++) {
            x.change(k, 1, 50);
        }
        x.lot();
        for (int k = 0; k < ships; k++) {
            if (x.shipOf(k, 1) == 62) {
                return k + 1;
            }
        }
        return 0;
    }

    private static void actByLot() {
        for (int ships = 0; ships <= 6; ships++) {
            LightHalves x = new LightHalves();
            x.ends(16);
            Due.rules(x, "ship hail;");
            for (int k = 0; k < ships; k++) {
                x.ship(COASTER, 50, 5, k);
            }
            int z = 1;
            for (int watch = 0; watch < 16; watch++) {
                x.light(watch, 2);
                z = next(z);
                due.is("35 the ACT of " + ships + " SHIPS by " + z, actSeen(x), (z >>> 16) % (ships + 1));
            }
        }
    }

    private static void seed() {
        LightHalves x = new LightHalves();
        due.is("34 at first", x.seed(Integer.MIN_VALUE), 1);
        due.is("34 the least", x.seed(Integer.MAX_VALUE), Integer.MIN_VALUE);
        due.is("34 the most", x.seed(-1), Integer.MAX_VALUE);
        due.is("34 -1 is no refusal", x.seed(0), -1);
        due.is("34 0", x.seed(0), 0);
    }

    private static void lastLot() {
        LightHalves x = new LightHalves();
        x.ends(2);
        due.is("35 the first", x.lot(), 0);
        due.is("35 the last", x.lot(), 0);
        int z = next(next(1));
        due.is("35 OVER", x.lot(), STATE);
        due.is("35 WATCH stays", x.state(0), 2);
        due.is("34 z stays", x.seed(z), z);
        x.ends(3);
        due.is("35 one more", x.lot(), 0);
    }

    private static void times() {
        LightHalves x = Due.one(BRIG, 20, 5, 0);
        due.is("36 once", x.times(1, 0), 1);
        due.is("36 40 times", x.times(40, 0), 40);
        due.is("36 0 times", x.times(0, 0), BAD);
        due.is("36 41 times", x.times(41, 0), BAD);
        x.change(0, 4, 1);
        x.ends(16);
        due.is("36 all 16 WATCHES", x.times(40, 16), 40);
        due.is("36 no more", x.times(40, 17), 0);
        x.change(0, 4, 0);
        x.ends(1);
        x.watch();
        due.is("36 OVER: WORTH 0 each time", x.times(40, 0), 40);
        due.is("36 OVER: no more", x.times(40, 1), 0);
        due.is("36 no SHIPS", new LightHalves().times(40, 0), 40);
        due.is("36 no SHIPS", new LightHalves().times(40, 1), 0);
    }

    /** With two WATCHES left she enters with the first, with the second (but is 15 OFF then), or not. */
    private static void zGoesOn() {
        LightHalves x = Due.one(BRIG, 20, 5, 0);
        x.ends(2);
        int z = 1;
        int[] reached = {0, 0, 0};
        for (int n = 1; n <= 40; n++) {
            z = next(z);
            boolean first = (z >>> 16) % 2 == 1;
            z = next(z);
            boolean second = (z >>> 16) % 2 == 1;
            int worth = first ? 13 : second ? 12 : 0;
            reached[0] += worth >= 1 ? 1 : 0;
            reached[1] += worth >= 13 ? 1 : 0;
            due.is("36 " + n + " times, 1 or more", x.times(n, 1), reached[0]);
            due.is("36 " + n + " times, 13 or more", x.times(n, 13), reached[1]);
            due.is("36 " + n + " times, 14 or more", x.times(n, 14), reached[2]);
        }
        due.is("34 z in the end", x.seed(5), 1);
        due.is("11 all as it was", x.state(0) + x.state(2) + x.state(4), 0);
    }

    private static void orMore() {
        LightHalves x = Due.one(BRIG, 20, 5, 0);
        x.change(0, 4, 1);
        x.ends(7);
        due.is("36 one less", x.times(40, 6), 40);
        due.is("36 as much", x.times(40, 7), 40);
        due.is("36 one more", x.times(40, 8), 0);
        due.is("36 999", x.times(40, 999), 0);
        due.is("36 1000", x.times(40, 1000), BAD);
        due.is("36 -1", x.times(40, -1), BAD);
    }
}
