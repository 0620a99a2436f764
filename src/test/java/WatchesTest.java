/** Promises 14 to 22: watches, who is on the rock, what trim it takes, who is safe, convoys. */
public final class WatchesTest {
    private static final int BAD = LightHalves.BAD, NONE = LightHalves.NONE;
    private static final Due due = new Due("WatchesTest");

    public static void main(String[] args) {
        due.says("A WATCH goes by as in THE REST: what it was WORTH. STATE: it is OVER.", WatchesTest::watch);
        worthOfHome();
        hail();
        due.says("What n (0 to 16) WATCHES of THE REST (fewer, if it is OVER) are WORTH. BAD.", WatchesTest::on);
        due.says("The first WATCH of THE REST behind which a SHIP is HOME. BAD; NONE (also if she is now).",
            WatchesTest::when);
        due.says("TRIM with which a SHIP makes THE REST WORTH most; of several the least. BAD.", WatchesTest::trimFor);
        due.says("LANE likewise. BAD.", WatchesTest::laneFor);
        due.says("ROCK (WATCH itself, if she is ON THE ROCK now). BAD; NONE.", WatchesTest::rock);
        due.says("LEAST of a SHIP. BAD; NONE: with none.", WatchesTest::least);
        due.says("SAFE by n (0 to 16), as a set. BAD.", WatchesTest::safe);
        due.says("CONVOYS: what -1 how many, 0 .. 5 SHIPS of that SHIP's CONVOY, as a set (0: she is HOME). BAD: also"
            + " no such SHIP.", WatchesTest::convoys);
        due.end();
    }

    private static void watch() {
        LightHalves x = Due.twoBrigs();
        x.ends(3);
        due.is("14 the least enters", x.watch(), 12);
        due.is("14 HOME", x.state(4), 1);
        due.is("14 she that is HOME nears no more", x.shipOf(0, 1), 20);
        due.is("14 the other nears", x.shipOf(1, 1), 15);
        due.is("14 watch", x.watch(), 13);
        due.is("14 none may", x.watch(), 2);
        due.is("14 over", x.watch(), LightHalves.STATE);
        due.is("14 score", x.state(2), 27);
        due.is("14 watches", x.state(0), 3);
        LightHalves y = Due.twoBrigs();
        Due.rules(y, "brig if number = 0 stand;");
        due.is("14 who stands is not told", y.watch(), 12);
        due.is("14 HOME", y.state(4), 2);
        LightHalves z = Due.one(4, 24, 5, 0);
        due.is("14 out of reach", z.watch(), 0);
        due.is("14 in reach", z.watch(), 12);
    }

    private static void worthOfHome() {
        LightHalves x = Due.twoBrigs();
        x.ship(1, 2, 0, 2);
        x.ship(1, 2, 0, 3);
        Due.rules(x, "ship stand;");
        due.is("14 two on the rock, none HOME", x.watch(), 0);
        due.is("14 on the rock", x.state(6), 2);
        x.change(0, 4, 1);
        due.is("14 one HOME, two on the rock", x.watch(), 0);
        x.change(1, 4, 1);
        x.change(2, 4, 1);
        due.is("14 three HOME, one on the rock", x.watch(), 2);
        LightHalves y = Due.one(1, 2, 0, 0);
        y.lane(0, 0, 9);
        Due.rules(y, "ship stand;");
        y.watch();
        due.is("14 OFF is 0 at least", y.shipOf(0, 1), 0);
    }

    private static void hailed(int off, int light, int worth, int then) {
        LightHalves x = Due.one(4, off, 5, 0);
        x.light(0, light);
        Due.rules(x, "brig hail;");
        Due.acts(x, 1);
        due.is("44 hailed at " + off + " by " + light, x.goAll(3, 0, 1), worth);
        due.is("44 then OFF", x.shipOf(0, 1), then);
        due.is("44 not HOME", x.state(4), 0);
    }

    private static void hail() {
        hailed(20, 6, 1, 27);
        hailed(20, 7, 1, 26);
        hailed(20, 5, 0, 28);
        hailed(20, 4, 0, 29);
        hailed(95, 6, 1, 94);
        hailed(0, 6, 1, 7);
    }

    private static void on() {
        LightHalves x = Due.twoBrigs();
        x.ends(4);
        int[] want = {0, 12, 25, 27, 29, 29};
        for (int n = 0; n < want.length; n++) {
            due.is("15 on(" + n + ")", x.on(n), want[n]);
        }
        due.is("15 on", x.on(16), 29);
        due.is("15 on", x.on(17), BAD);
        due.is("15 on", x.on(-1), BAD);
        due.is("15 changes nothing", x.state(0) + x.state(2) + x.state(4), 0);
        due.is("15 changes nothing", x.shipOf(1, 1), 20);
        x.watch();
        due.is("15 from now on", x.on(2), 15);
    }

    private static void when() {
        LightHalves x = Due.twoBrigs();
        x.ship(1, 99, 0, 2);
        due.is("16 when", x.when(0), 0);
        due.is("16 when", x.when(1), 1);
        due.is("16 never", x.when(2), NONE);
        due.is("16 when", x.when(3), BAD);
        due.is("16 when", x.when(-1), BAD);
        x.watch();
        due.is("16 HOME now", x.when(0), NONE);
        due.is("16 the WATCH, not how many", x.when(1), 1);
        x.ends(1);
        due.is("16 over", x.when(1), NONE);
    }

    private static void trimFor() {
        LightHalves x = Due.one(4, 23, 5, 0);
        x.ends(1);
        due.is("17 trimFor", x.trimFor(0), 9);
        due.is("17 changes nothing", x.shipOf(0, 2), 5);
        Due.rules(x, "ship if trim > 7 stand;");
        due.is("17 by rules", x.trimFor(0), 7);
        x.change(0, 1, 99);
        due.is("17 of several the least", x.trimFor(0), 0);
        due.is("17 trimFor", x.trimFor(1), BAD);
        due.is("17 trimFor", x.trimFor(-1), BAD);
    }

    private static void laneFor() {
        LightHalves x = Due.one(1, 25, 5, 5);
        x.ends(1);
        due.is("18 of several the least", x.laneFor(0), 0);
        x.lane(2, 1, 9);
        x.lane(4, 1, 9);
        due.is("18 laneFor", x.laneFor(0), 2);
        due.is("18 changes nothing", x.shipOf(0, 3), 5);
        x.lane(2, 1, 4);
        due.is("18 laneFor", x.laneFor(0), 4);
        x.lane(4, 1, 4);
        x.lane(5, 1, 5);
        due.is("18 the last LANE", x.laneFor(0), 5);
        due.is("18 laneFor", x.laneFor(1), BAD);
        due.is("18 laneFor", x.laneFor(-1), BAD);
    }

    private static void rock() {
        LightHalves x = Due.one(1, 4, 0, 0);
        x.ship(1, 24, 0, 1);
        x.ship(1, 25, 0, 2);
        x.ship(1, 0, 0, 3);
        Due.rules(x, "ship stand;");
        due.is("19 rock", x.rock(0), 2);
        due.is("19 behind the last WATCH", x.rock(1), 12);
        due.is("19 never", x.rock(2), NONE);
        due.is("19 now", x.rock(3), 0);
        due.is("19 rock", x.rock(4), BAD);
        due.is("19 rock", x.rock(-1), BAD);
        x.watch();
        due.is("19 the WATCH, not how many", x.rock(0), 2);
        due.is("19 now", x.rock(3), 1);
        x.change(3, 4, 1);
        due.is("19 HOME", x.rock(3), NONE);
        x.change(3, 4, 0);
        x.ends(1);
        due.is("19 over, on the rock", x.rock(3), 1);
        due.is("19 over", x.rock(0), NONE);
        LightHalves y = Due.one(1, 4, 0, 0);
        due.is("19 who enters is never there", y.rock(0), NONE);
    }

    private static void least() {
        LightHalves x = Due.one(4, 23, 0, 0);
        due.is("20 least", x.least(0), 5);
        due.is("20 changes nothing", x.shipOf(0, 2), 0);
        Due.rules(x, "ship stand;");
        due.is("20 WILL doesn't count", x.least(0), 5);
        x.lane(0, 1, 9);
        due.is("20 by BUOY", x.least(0), 1);
        x.change(0, 1, 40);
        due.is("20 the most TRIM", x.least(0), 9);
        x.change(0, 1, 41);
        due.is("20 with none", x.least(0), NONE);
        x.change(0, 1, 0);
        due.is("20 on the rock", x.least(0), NONE);
        x.change(0, 1, 1);
        due.is("20 the least TRIM", x.least(0), 0);
        x.change(0, 4, 1);
        due.is("20 HOME", x.least(0), NONE);
        due.is("20 least", x.least(1), BAD);
        due.is("20 least", x.least(-1), BAD);
    }

    private static void safe() {
        LightHalves x = Due.one(1, 4, 0, 0);
        x.ship(1, 0, 0, 1);
        x.ship(1, 99, 0, 2);
        x.ship(1, 0, 0, 3);
        x.change(3, 4, 1);
        Due.rules(x, "ship stand;");
        due.is("21 now", x.safe(0), 13);
        due.is("21 safe", x.safe(1), 13);
        due.is("21 safe", x.safe(2), 12);
        due.is("21 safe", x.safe(16), 12);
        due.is("21 safe", x.safe(17), BAD);
        due.is("21 safe", x.safe(-1), BAD);
        x.ends(1);
        due.is("21 fewer, if it is OVER", x.safe(2), 13);
        due.is("21 changes nothing", x.shipOf(0, 1), 4);
        Due.rules(x, "");
        x.ends(12);
        due.is("21 by THE REST", x.safe(16), 13);
    }

    private static void convoys() {
        LightHalves x = new LightHalves();
        due.is("22 none", x.convoys(-1), 0);
        due.is("22 no such SHIP", x.convoys(0), BAD);
        x.ship(1, 18, 0, 0);
        x.ship(1, 10, 0, 1);
        x.ship(1, 14, 0, 2);
        x.ship(1, 50, 0, 3);
        x.ship(1, 90, 0, 3);
        x.ship(1, 55, 0, 4);
        due.is("22 convoys", x.convoys(-1), 3);
        int[] want = {7, 7, 7, 24, 24, 32};
        for (int k = 0; k < 6; k++) {
            due.is("22 convoys(" + k + ")", x.convoys(k), want[k]);
        }
        x.change(5, 1, 54);
        due.is("22 by 4 apart", x.convoys(5), 56);
        x.change(2, 4, 1);
        due.is("22 HOME", x.convoys(2), 0);
        due.is("22 parted by who is HOME", x.convoys(0), 1);
        due.is("22 convoys", x.convoys(-1), 3);
        due.is("22 convoys", x.convoys(-2), BAD);
        due.is("22 convoys", x.convoys(6), BAD);
    }
}
