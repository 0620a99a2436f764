/** A WATCH that goes by, THE REST, and promises 14 to 22: a test of its own for each sentence that names a boundary. */
public final class WatchesEdgesTest {
    private static final int BAD = LightHalves.BAD, NONE = LightHalves.NONE, STATE = LightHalves.STATE;
    private static final int TENDER = 1, COASTER = 2, BRIG = 4, CAPTAIN = 5;
    /** No FLASH and DARK 2: by it a coaster NEARS nothing, and who is hailed off is WORTH 1. */
    private static final int DIM = 2;
    private static final Due due = new Due("WatchesEdgesTest");

    public static void main(String[] args) {
        aWatch();
        theRest();
        whoIsOnTheRock();
        convoys();
        due.end();
    }

    private static void aWatch() {
        due.says("A WATCH goes by: (1) If a SHIP is told, and is not HOME, she does as her WILL is",
            WatchesEdgesTest::toldThoughHome);
        due.says("enter: WORTH what she PAYS; if that is more than 0, she is HOME.", WatchesEdgesTest::entersIfShePays);
        due.says("hail: she is 12 more OFF (99 at most; ON THE ROCK, too)", WatchesEdgesTest::hailedOff);
        due.says("WORTH 1, if DARK is above 1", WatchesEdgesTest::hailedInTheDark);
        due.says("stand: nothing.", WatchesEdgesTest::stands);
        due.says("(2) Each that isn't HOME is less OFF by what she NEARS (0 at least", WatchesEdgesTest::nearsTheRock);
        due.says("by all as (2) begins)", WatchesEdgesTest::nearsAsTwoBegins);
        due.says("(3) How many are HOME, less how many are ON THE ROCK then, is WORTH so much more (0 at least).",
            WatchesEdgesTest::worthOfHome);
        due.says("WATCH is 1 more.", WatchesEdgesTest::oneMore);
    }

    private static void theRest() {
        due.says("THE REST: all WATCHES yet, in each the least SHIP being told that MAY enter (none, if there is none).",
            WatchesEdgesTest::leastThatMay);
        due.says("A WATCH goes by as in THE REST: what it was WORTH. STATE: it is OVER.", WatchesEdgesTest::lastWatch);
        due.says("What n (0 to 16) WATCHES of THE REST (fewer, if it is OVER) are WORTH.", WatchesEdgesTest::on);
        due.says("The first WATCH of THE REST behind which a SHIP is HOME. BAD; NONE (also if she is now).",
            WatchesEdgesTest::when);
        due.says("TRIM with which a SHIP makes THE REST WORTH most; of several the least.", WatchesEdgesTest::trimFor);
        due.says("LANE likewise. BAD.", WatchesEdgesTest::laneFor);
    }

    private static void whoIsOnTheRock() {
        due.says("ROCK: the first WATCH, from WATCH on, as which it is when one is ON THE ROCK, in THE REST.",
            WatchesEdgesTest::rock);
        due.says("ROCK (WATCH itself, if she is ON THE ROCK now).", WatchesEdgesTest::rockNow);
        due.says("LEAST of one: the least TRIM (0 to 9) with which she would PAY more than 0 now", WatchesEdgesTest::least);
        due.says("(WILL doesn't count)", WatchesEdgesTest::leastWithoutWill);
        due.says("LEAST of a SHIP. BAD; NONE: with none.", WatchesEdgesTest::leastWithNone);
        due.says("SAFE by n: those that are HOME, or OFF by 1 or more, behind n WATCHES of THE REST", WatchesEdgesTest::safe);
        due.says("SAFE by n (0 to 16), as a set. BAD.", WatchesEdgesTest::safeAll);
        due.says("(fewer, if it is OVER). CLOSE", WatchesEdgesTest::safeTillOver);
    }

    private static void convoys() {
        due.says("CLOSE: two SHIPS that aren't HOME, of the same LANE, or OFF by 4 or less apart", WatchesEdgesTest::close);
        due.says("a CONVOY: all that hang together so, one by the other", WatchesEdgesTest::oneByTheOther);
        due.says("what -1 how many, 0 .. 5 SHIPS of that SHIP's CONVOY, as a set (0: she is HOME). BAD: also no such SHIP.",
            WatchesEdgesTest::noConvoy);
    }

    private static void toldThoughHome() {
        LightHalves x = Due.twoBrigs();
        x.change(0, 4, 1);
        due.is("44 told to enter, is HOME", Due.pass(x, 1), 1);
        due.is("3 she nears no more", x.shipOf(0, 1), 20);
        due.is("3 the other does", x.shipOf(1, 1), 15);
        Due.rules(x, "ship hail;");
        due.is("44 hailed, is HOME", Due.pass(x, 1), 1);
        due.is("3 no farther OFF", x.shipOf(0, 1), 20);
        due.is("44 none is told", Due.pass(x, 0), 1);
        due.is("11 three WATCHES", x.state(0), 3);
    }

    private static void enters(int off, int worth, int home, int then) {
        LightHalves x = Due.one(BRIG, off, 5, 0);
        due.is("44 told at " + off, Due.pass(x, 1), worth);
        due.is("11 HOME from " + off, x.state(4), home);
        due.is("3 OFF from " + off, x.shipOf(0, 1), then);
    }

    private static void entersIfShePays() {
        enters(0, 0, 0, 0);
        enters(1, 12, 1, 1);
        enters(23, 12, 1, 23);
        enters(24, 0, 0, 19);
        enters(99, 0, 0, 94);
    }

    private static void hailed(int off, int light, int worth, int then) {
        LightHalves x = Due.one(COASTER, off, 5, 0);
        x.light(0, light);
        Due.rules(x, "ship hail;");
        due.is("44 hailed at " + off + " by LIGHT " + light, Due.pass(x, 1), worth);
        due.is("3 then OFF", x.shipOf(0, 1), then);
        due.is("3 not HOME", x.shipOf(0, 4), 0);
    }

    private static void hailedOff() {
        hailed(0, DIM, 1, 12);
        hailed(1, DIM, 1, 13);
        hailed(86, DIM, 1, 98);
        hailed(87, DIM, 1, 99);
        hailed(88, DIM, 1, 99);
        hailed(99, DIM, 1, 99);
        LightHalves x = Due.one(BRIG, 95, 5, 0);
        Due.rules(x, "ship hail;");
        Due.pass(x, 1);
        due.is("3 first 99, then nearer", x.shipOf(0, 1), 94);
    }

    private static void hailedInTheDark() {
        for (int dark = 0; dark <= 3; dark++) {
            hailed(40, dark, dark > 1 ? 1 : 0, 52);
            hailed(95, dark, dark > 1 ? 1 : 0, 99);
            hailed(0, dark, dark > 1 ? 1 : 0, 12);
        }
        hailed(40, 12, 0, 46);
        hailed(40, 15, 1, 46);
    }

    private static void stands() {
        LightHalves x = Due.one(COASTER, 9, 5, 0);
        x.light(0, 3);
        Due.rules(x, "ship stand;");
        due.is("44 who stands", Due.pass(x, 1), 0);
        due.is("3 OFF as she is", x.shipOf(0, 1), 9);
        due.is("3 not HOME", x.shipOf(0, 4), 0);
    }

    private static void nearsTheRock() {
        int[][] offs = {{0, 0}, {1, 0}, {4, 0}, {5, 0}, {6, 1}, {99, 94}};
        for (int[] off : offs) {
            LightHalves x = Due.one(BRIG, off[0], 5, 0);
            due.is("44 none is told", Due.pass(x, 0), 0);
            due.is("3 from " + off[0], x.shipOf(0, 1), off[1]);
        }
    }

    private static void nearsAsTwoBegins() {
        LightHalves x = new LightHalves();
        for (int k = 0; k < 3; k++) {
            x.ship(BRIG, 10 * k + 10, 5, 0);
        }
        due.is("44 none is told", Due.pass(x, 0), 0);
        due.is("3 two others", x.shipOf(2, 1), 27);
        due.is("44 the first enters", Due.pass(x, 1), 12);
        due.is("3 who is HOME takes nothing more", x.shipOf(1, 1), 13);
        due.is("3 nor from the last", x.shipOf(2, 1), 23);
        due.is("3 who is HOME nears no more", x.shipOf(0, 1), 7);
        due.is("44 none is told", Due.pass(x, 0), 1);
        due.is("3 with one other again", x.shipOf(2, 1), 19);
    }

    private static void worthOfHome() {
        for (int home = 0; home <= 3; home++) {
            for (int stranded = 0; stranded <= 3; stranded++) {
                LightHalves x = new LightHalves();
                x.light(0, DIM);
                for (int k = 0; k < home + stranded; k++) {
                    x.ship(COASTER, 0, 5, 0);
                    x.change(k, 4, k < home ? 1 : 0);
                }
                int worth = home > stranded ? home - stranded : 0;
                due.is("44 " + home + " HOME, " + stranded + " ON THE ROCK", Due.pass(x, 0), worth);
            }
        }
        LightHalves x = Due.one(BRIG, 5, 5, 0);
        x.ship(BRIG, 6, 5, 1);
        x.ship(BRIG, 9, 5, 2);
        due.is("44 one enters, one comes ON THE ROCK", Due.pass(x, 3), 11);
        due.is("44 two ON THE ROCK, one HOME", Due.pass(x, 0), 0);
    }

    private static void oneMore() {
        LightHalves x = new LightHalves();
        for (int watch = 0; watch < 12; watch++) {
            due.is("11 WATCH", x.state(0), watch);
            due.is("44 none is told", Due.pass(x, 0), 0);
        }
        due.is("11 END", x.state(0), 12);
    }

    private static void leastThatMay() {
        LightHalves x = new LightHalves();
        x.ship(BRIG, 24, 5, 0);
        x.ship(BRIG, 0, 5, 1);
        x.ship(BRIG, 20, 5, 2);
        x.ship(BRIG, 20, 5, 3);
        Due.rules(x, "brig if number = 2 hail;");
        due.is("14 neither out of reach, ON THE ROCK, nor hailed", x.watch(), 11);
        due.is("11 but the least that MAY", x.state(4), 8);
        due.is("3 she isn't hailed: she isn't told", x.shipOf(2, 1), 15);
        due.is("14 the next", x.watch(), 12);
        due.is("11 is SHIP 0", x.state(4), 9);
        due.is("14 none MAY", x.watch(), 1);
        due.is("11 none more", x.state(4), 9);
        LightHalves y = Due.one(BRIG, 20, 5, 0);
        Due.rules(y, "ship hail;");
        due.is("14 none MAY, so none is told", y.watch(), 0);
        due.is("3 nor hailed", y.shipOf(0, 1), 15);
        due.is("15 nor hailed", y.on(16), 0);
        due.is("19 nor hailed", y.rock(0), 4);
    }

    private static void lastWatch() {
        LightHalves x = Due.one(BRIG, 20, 5, 0);
        x.ends(1);
        due.is("14 the last", x.watch(), 12);
        due.is("14 OVER", x.watch(), STATE);
        due.is("11 SCORE as it was", x.state(2), 12);
        due.is("11 WATCH as it was", x.state(0), 1);
        LightHalves y = new LightHalves();
        y.ends(16);
        for (int watch = 0; watch < 16; watch++) {
            due.is("14 WATCH " + watch, y.watch(), 0);
        }
        due.is("14 OVER", y.watch(), STATE);
    }

    private static void on() {
        LightHalves x = Due.one(BRIG, 20, 5, 0);
        due.is("15 none", x.on(0), 0);
        due.is("15 one", x.on(1), 12);
        due.is("15 the last there is", x.on(12), 23);
        due.is("15 no more than there are", x.on(13), 23);
        x.ends(16);
        due.is("15 one less", x.on(15), 26);
        due.is("15 all", x.on(16), 27);
        due.is("15 too many", x.on(17), BAD);
        due.is("15 below", x.on(-1), BAD);
        Due.watches(x, 14);
        due.is("15 two left", x.on(2), 2);
        due.is("15 two left", x.on(16), 2);
        Due.watches(x, 2);
        due.is("15 OVER", x.on(16), 0);
        due.is("15 OVER", x.on(0), 0);
    }

    private static void when() {
        LightHalves x = Due.one(BRIG, 78, 5, 0);
        due.is("16 in the last WATCH", x.when(0), 11);
        x.change(0, 1, 79);
        due.is("16 one too far OFF", x.when(0), NONE);
        x.ends(16);
        x.change(0, 1, 98);
        due.is("16 in WATCH 15", x.when(0), 15);
        x.change(0, 1, 99);
        due.is("16 one too far OFF", x.when(0), NONE);
        x.ends(12);
        x.change(0, 1, 23);
        due.is("16 in this one", x.when(0), 0);
        x.change(0, 1, 0);
        due.is("16 ON THE ROCK", x.when(0), NONE);
        x.change(0, 1, 24);
        due.is("16 in the next", x.when(0), 1);
        x.watch();
        due.is("16 in this one, WATCH 1", x.when(0), 1);
        x.watch();
        due.is("16 HOME now", x.when(0), NONE);
        due.is("16 no such SHIP", x.when(1), BAD);
        due.is("16 no such SHIP", x.when(-1), BAD);
        x.change(0, 4, 0);
        due.is("16 not now", x.when(0), 2);
        x.ends(2);
        due.is("16 OVER", x.when(0), NONE);
    }

    private static void trimFor() {
        LightHalves x = Due.one(BRIG, 31, 5, 0);
        x.ends(1);
        due.is("17 the most", x.trimFor(0), 9);
        x.change(0, 1, 32);
        due.is("17 none does, so the least", x.trimFor(0), 0);
        x.change(0, 1, 13);
        Due.rules(x, "ship if trim > 0 stand;");
        due.is("17 the least", x.trimFor(0), 0);
        Due.rules(x, "ship if trim > 4 hail;");
        due.is("17 one between", x.trimFor(0), 4);
        x.change(0, 4, 1);
        due.is("17 HOME", x.trimFor(0), 0);
        x.change(0, 4, 0);
        Due.rules(x, "");
        due.is("17 the most again", x.trimFor(0), 9);
        due.is("3 her own stays", x.shipOf(0, 2), 5);
        x.watch();
        x.change(0, 4, 0);
        due.is("17 OVER", x.trimFor(0), 0);
        due.is("17 no such SHIP", x.trimFor(1), BAD);
        LightHalves y = Due.one(BRIG, 13, 5, 0);
        y.ends(2);
        Due.rules(y, "ship if trim = 9 and watch = 0 stand; ship if trim < 9 and watch = 1 stand;");
        due.is("17 soon with 8, or more with 9: 14 and 2 against 15 and 1", y.trimFor(0), 8);
    }

    private static void laneFor() {
        LightHalves x = Due.one(BRIG, 30, 5, 2);
        x.ends(1);
        due.is("18 none does, so the least", x.laneFor(0), 0);
        x.lane(5, 1, 7);
        due.is("18 the last", x.laneFor(0), 5);
        x.lane(3, 1, 9);
        due.is("18 of several the least", x.laneFor(0), 3);
        x.lane(0, 1, 7);
        due.is("18 the first", x.laneFor(0), 0);
        due.is("3 her own stays", x.shipOf(0, 3), 2);
        x.change(0, 4, 1);
        x.lane(0, 1, 0);
        due.is("18 HOME", x.laneFor(0), 0);
        x.watch();
        x.change(0, 4, 0);
        due.is("18 OVER", x.laneFor(0), 0);
        due.is("18 no such SHIP", x.laneFor(1), BAD);
        due.is("18 no such SHIP", x.laneFor(-1), BAD);
    }

    private static void rock() {
        LightHalves x = Due.one(BRIG, 5, 5, 0);
        Due.rules(x, "ship stand;");
        due.is("19 behind this WATCH", x.rock(0), 1);
        x.change(0, 1, 6);
        due.is("19 behind the next", x.rock(0), 2);
        x.change(0, 1, 55);
        due.is("19 as the last WATCH comes", x.rock(0), 11);
        x.change(0, 1, 60);
        due.is("19 behind the last", x.rock(0), 12);
        x.change(0, 1, 61);
        due.is("19 too far OFF", x.rock(0), NONE);
        x.ends(16);
        due.is("19 not if it ends later", x.rock(0), 13);
        x.change(0, 1, 80);
        due.is("19 as WATCH 16", x.rock(0), 16);
        x.change(0, 1, 81);
        due.is("19 never", x.rock(0), NONE);
        Due.rules(x, "");
        due.is("19 she comes HOME first", x.rock(0), NONE);
        due.is("19 no such SHIP", x.rock(1), BAD);
        due.is("19 no such SHIP", x.rock(-1), BAD);
    }

    private static void rockNow() {
        LightHalves x = Due.one(BRIG, 0, 5, 0);
        due.is("19 WATCH 0", x.rock(0), 0);
        Due.watches(x, 11);
        due.is("19 WATCH 11", x.rock(0), 11);
        x.watch();
        due.is("19 OVER", x.rock(0), 12);
        x.change(0, 1, 1);
        due.is("19 OVER, 1 OFF", x.rock(0), NONE);
        x.change(0, 1, 0);
        x.change(0, 4, 1);
        due.is("19 HOME, 0 OFF", x.rock(0), NONE);
    }

    private static void leastAt(int kind, int off, int want) {
        LightHalves x = Due.one(kind, off, 5, 0);
        due.is("20 KIND " + kind + ", " + off + " OFF", x.least(0), want);
        due.is("3 her own stays", x.shipOf(0, 2), 5);
    }

    private static void least() {
        leastAt(BRIG, 1, 0);
        leastAt(BRIG, 13, 0);
        leastAt(BRIG, 14, 1);
        leastAt(BRIG, 15, 1);
        leastAt(BRIG, 16, 2);
        leastAt(BRIG, 30, 9);
        leastAt(BRIG, 31, 9);
        leastAt(CAPTAIN, 6, 0);
        leastAt(CAPTAIN, 7, 1);
        leastAt(CAPTAIN, 15, 9);
        leastAt(TENDER, 20, 0);
    }

    private static void leastWithoutWill() {
        LightHalves x = Due.one(BRIG, 31, 5, 0);
        Due.rules(x, "ship if trim > 3 stand; ship hail;");
        due.is("20 who stands", x.least(0), 9);
        x.change(0, 1, 14);
        due.is("20 who is hailed", x.least(0), 1);
        x.ends(1);
        x.watch();
        x.change(0, 1, 14);
        due.is("20 OVER", x.least(0), 1);
    }

    private static void leastWithNone() {
        leastAt(BRIG, 0, NONE);
        leastAt(BRIG, 32, NONE);
        leastAt(CAPTAIN, 16, NONE);
        leastAt(TENDER, 21, NONE);
        LightHalves x = Due.one(BRIG, 1, 5, 0);
        x.change(0, 4, 1);
        due.is("20 HOME", x.least(0), NONE);
        due.is("20 no such SHIP", x.least(1), BAD);
        due.is("20 no such SHIP", x.least(-1), BAD);
    }

    private static void safe() {
        LightHalves x = new LightHalves();
        x.ship(BRIG, 0, 5, 0);
        x.ship(BRIG, 1, 5, 1);
        x.ship(BRIG, 6, 5, 2);
        x.ship(BRIG, 99, 5, 3);
        x.ship(BRIG, 0, 5, 4);
        x.change(4, 4, 1);
        Due.rules(x, "ship stand;");
        due.is("21 behind none: OFF by 1 or more", x.safe(0), 2 + 4 + 8 + 16);
        due.is("21 behind one: 1 is left of 6", x.safe(1), 4 + 8 + 16);
        due.is("21 behind two", x.safe(2), 8 + 16);
        x.ends(16);
        due.is("21 behind 16: 80 of 99", x.safe(16), 8 + 16);
        due.is("21 17", x.safe(17), BAD);
        due.is("21 -1", x.safe(-1), BAD);
        Due.rules(x, "");
        due.is("21 HOME by THE REST, one in time", x.safe(1), 2 + 4 + 8 + 16);
        due.is("21 and another", x.safe(2), 2 + 4 + 8 + 16);
    }

    private static void safeAll() {
        LightHalves x = new LightHalves();
        for (int k = 0; k < 6; k++) {
            due.is("21 so many", x.safe(1), (1 << k) - 1);
            x.ship(BRIG, 99, 5, k);
        }
        due.is("21 all", x.safe(0), 63);
        due.is("21 all", x.safe(16), 63);
        for (int k = 0; k < 6; k++) {
            x.change(k, 1, 0);
        }
        due.is("21 none", x.safe(0), 0);
        due.is("21 none", x.safe(16), 0);
    }

    private static void safeTillOver() {
        LightHalves x = Due.one(BRIG, 11, 5, 0);
        Due.rules(x, "ship stand;");
        due.is("21 three WATCHES", x.safe(3), 0);
        x.ends(2);
        due.is("21 two, for it is OVER then", x.safe(3), 1);
        due.is("21 two, for it is OVER then", x.safe(16), 1);
        Due.watches(x, 2);
        due.is("21 OVER", x.safe(16), 1);
        x.ends(3);
        due.is("21 one more", x.safe(16), 0);
    }

    private static void closeBy(int one, int other, boolean close) {
        LightHalves x = Due.one(BRIG, one, 5, 0);
        x.ship(BRIG, other, 5, 1);
        due.is("22 " + one + " and " + other, x.convoys(-1), close ? 1 : 2);
        due.is("22 " + one + " and " + other, x.convoys(0), close ? 3 : 1);
        due.is("22 " + one + " and " + other, x.convoys(1), close ? 3 : 2);
    }

    private static void close() {
        closeBy(10, 10, true);
        closeBy(10, 14, true);
        closeBy(14, 10, true);
        closeBy(10, 15, false);
        closeBy(15, 10, false);
        closeBy(0, 4, true);
        closeBy(99, 94, false);
        LightHalves x = Due.one(BRIG, 0, 5, 3);
        x.ship(BRIG, 99, 5, 3);
        due.is("22 of the same LANE", x.convoys(-1), 1);
        x.change(1, 4, 1);
        due.is("22 one is HOME", x.convoys(0), 1);
        x.change(1, 1, 0);
        due.is("22 one is HOME, none apart", x.convoys(0), 1);
    }

    private static void oneByTheOther() {
        LightHalves x = new LightHalves();
        int[] offs = {20, 0, 16, 4, 12, 8};
        for (int k = 0; k < 6; k++) {
            x.ship(BRIG, offs[k], 5, k);
        }
        for (int k = 0; k < 6; k++) {
            due.is("22 all six, from 20 to 0", x.convoys(k), 63);
        }
        due.is("22 one CONVOY", x.convoys(-1), 1);
        x.change(4, 1, 99);
        due.is("22 20 and 16", x.convoys(0), 1 + 4);
        due.is("22 0, 4 and 8", x.convoys(1), 2 + 8 + 32);
        due.is("22 one alone", x.convoys(4), 16);
        due.is("22 three CONVOYS", x.convoys(-1), 3);
        x.change(4, 3, 0);
        due.is("22 of SHIP 0's LANE", x.convoys(4), 1 + 4 + 16);
        due.is("22 two CONVOYS", x.convoys(-1), 2);
        for (int k = 0; k < 6; k++) {
            x.change(k, 1, 15 * k);
            x.change(k, 3, k);
        }
        due.is("22 each alone", x.convoys(-1), 6);
    }

    private static void noConvoy() {
        LightHalves x = new LightHalves();
        due.is("22 no SHIPS", x.convoys(-1), 0);
        for (int k = 0; k < 6; k++) {
            due.is("22 no such SHIP", x.convoys(k), BAD);
            x.ship(BRIG, 20, 5, 0);
            due.is("22 there she is", x.convoys(k), (2 << k) - 1);
        }
        due.is("22 6", x.convoys(6), BAD);
        due.is("22 -2", x.convoys(-2), BAD);
        for (int k = 0; k < 6; k++) {
            x.change(k, 4, 1);
            due.is("22 HOME", x.convoys(k), 0);
            due.is("22 CONVOYS of the others", x.convoys(-1), k < 5 ? 1 : 0);
        }
    }
}
