/** The part "1 THE ROCK" and promises 1 to 11: a test of its own for each sentence that names a boundary. */
public final class RockEdgesTest {
    private static final int BAD = LightHalves.BAD, FULL = LightHalves.FULL, STATE = LightHalves.STATE;
    private static final int TENDER = 1, COASTER = 2, COLLIER = 3, BRIG = 4, CAPTAIN = 5;
    private static final Due due = new Due("RockEdgesTest");

    public static void main(String[] args) {
        due.says("An object is used for at most 512 calls after it has been made", RockEdgesTest::lastCall);
        due.says("No SHIPS, RULES, REPORTS; nothing is kept.", RockEdgesTest::empty);
        due.says("Sets are told by bits.", RockEdgesTest::sets);
        due.says("THE ROCK: WATCHES are 0, 1, ..; END is 1 to 16 (12 at first)", RockEdgesTest::end);
        due.says("WATCH: the one that comes (0 at first)", RockEdgesTest::watchThatComes);
        due.says("from END on it is OVER", RockEdgesTest::over);
        due.says("WATCHES 0 to 15 each have a LIGHT: 4 times FLASH (0 to 3), and DARK (0 to 3)", RockEdgesTest::flashAndDark);
        due.says("6 at first (behind WATCH 15: 0)", RockEdgesTest::lightBehindTheLast);
        due.says("LANES 0 to 5 each have a CURRENT, a BUOY (0 to 9; 0 at first)", RockEdgesTest::lanes);
        due.says("SCORE: what WATCHES were WORTH (0 at first)", RockEdgesTest::score);
        due.says("SHIPS, 6 at most, numbered as they come", RockEdgesTest::sixShips);
        due.says("a KIND, how far OFF (0 to 99), TRIM (0 to 9), a LANE", RockEdgesTest::numbersOfAShip);
        due.says("HOME or not (at first)", RockEdgesTest::notHomeAtFirst);
        due.says("ON THE ROCK: one that isn't HOME, 0 OFF", RockEdgesTest::onTheRock);
        kinds();
        payingAndEntering();
        calls();
        due.end();
    }

    private static void kinds() {
        due.says("NEARS (by FLASH, DARK, WATCH): ship: 2 and FLASH. tender: FLASH times DARK. coaster: twice FLASH."
            + " collier: as coaster, and DARK. brig: 3 and DARK.", RockEdgesTest::nearsByLight);
        due.says("captain: as brig, but 0 in WATCHES 0, 3, ..", RockEdgesTest::captainNears);
        due.says("To that the CURRENT of her LANE is added, and 1 taken for each other of her LANE that isn't HOME",
            RockEdgesTest::nearsByLane);
        due.says("(0 at least). REACHES", RockEdgesTest::nearsNoLessThanNothing);
        due.says("REACHES (by TRIM, FLASH): ship: 10, and 2 for each of TRIM. tender: 20. coaster: as ship, and 5.",
            RockEdgesTest::reachesByTrim);
        due.says("collier: as coaster, less 3 for each of FLASH (0 at least)", RockEdgesTest::collierReaches);
        due.says("brig: as ship, and 3 for each of FLASH", RockEdgesTest::brigReaches);
        due.says("captain: half of a brig's", RockEdgesTest::captainReaches);
        due.says("Quotients are cut towards 0.", RockEdgesTest::halves);
        due.says("To that the BUOY of her LANE is added.", RockEdgesTest::reachesByBuoy);
    }

    private static void payingAndEntering() {
        due.says("PAYS: 6 and TRIM", RockEdgesTest::paysByTrim);
        due.says("if she isn't HOME, and is OFF by 1 or more, but no more than she REACHES; else 0", RockEdgesTest::paysByOff);
        due.says("MAY enter: her WILL is to enter, and she PAYS more than 0", RockEdgesTest::mayEnter);
    }

    private static void calls() {
        due.says("5 what she NEARS now (HOME or not)", RockEdgesTest::nearsThoughHome);
        due.says("9 WILL as all is now (0 enter, 1 stand, 2 hail)", RockEdgesTest::willAsAllIsNow);
        due.says("A SHIP becomes one of another KIND (1 to 5): the KIND that it was.", RockEdgesTest::remadeToEach);
        due.says("END becomes v: what it was. BAD; STATE: v is below WATCH.", RockEdgesTest::endAtWatch);
        due.says("WATCH is 0 again, SCORE 0, none is HOME (OFF as she is): what WATCH was.", RockEdgesTest::anew);
        due.says("6 how many are ON THE ROCK", RockEdgesTest::allOnTheRock);
    }

    private static void lastCall() {
        LightHalves x = new LightHalves();
        for (int call = 1; call <= 509; call++) {
            due.is("call " + call, x.seed(call), call == 1 ? 1 : call - 1);
        }
        due.is("call 510", x.ship(BRIG, 20, 5, 0), 0);
        due.is("call 511", x.watch(), 12);
        due.is("call 512", x.state(4), 1);
    }

    private static void empty() {
        LightHalves x = new LightHalves();
        for (int what = 0; what <= 6; what++) {
            due.is("1 many(" + what + ")", x.many(what), 0);
        }
        due.is("1 nothing is kept", x.again(), LightHalves.NONE);
        due.is("1 a WATCH with no SHIPS", x.watch(), 0);
        due.is("1 goes by all the same", x.state(0), 1);
        due.is("1 none ON THE ROCK", x.state(6), 0);
        due.is("1 none HOME", x.state(4), 0);
        due.is("1 THE REST", x.on(16), 0);
        due.is("1 none is safe", x.safe(16), 0);
        due.is("1 no CONVOYS", x.convoys(-1), 0);
        due.is("1 a LOT", x.lot(), 0);
        due.is("1 nothing on THE TAPE", x.rules(), 0);
        due.is("1 no REPORTS", x.forget(), 0);
        due.is("1 no ROWS", x.judge(), 0);
        due.is("1 no TRACE", x.trace(0), LightHalves.NONE);
    }

    private static void sets() {
        LightHalves x = new LightHalves();
        for (int k = 0; k < 6; k++) {
            x.ship(BRIG, 20 * (k % 5), 5, k);
        }
        due.is("11 none HOME", x.state(4), 0);
        x.change(5, 4, 1);
        due.is("11 SHIP 5", x.state(4), 32);
        x.change(0, 4, 1);
        due.is("11 SHIPS 5 and 0", x.state(4), 33);
        for (int k = 1; k < 5; k++) {
            x.change(k, 4, 1);
        }
        due.is("11 all", x.state(4), 63);
        due.is("26 all are HOME", x.log(0, 63), 0);
    }

    private static void end() {
        LightHalves x = new LightHalves();
        due.is("9 at first", x.state(1), 12);
        due.is("9 below", x.ends(0), BAD);
        due.is("9 the least", x.ends(1), 12);
        due.is("9 the most", x.ends(16), 1);
        due.is("9 above", x.ends(17), BAD);
        due.is("9 as it was", x.state(1), 16);
    }

    private static void watchThatComes() {
        LightHalves x = new LightHalves();
        due.is("11 at first", x.state(0), 0);
        x.watch();
        due.is("11 behind WATCH 0", x.state(0), 1);
        Due.watches(x, 11);
        due.is("11 behind the last", x.state(0), 12);
        x.watch();
        due.is("11 OVER, so it stays", x.state(0), 12);
    }

    private static void over() {
        LightHalves x = new LightHalves();
        x.ends(2);
        due.is("11 WATCH 0 of 2", x.state(3), 0);
        x.watch();
        due.is("11 WATCH 1 of 2", x.state(3), 0);
        x.watch();
        due.is("11 WATCH 2 of 2", x.state(3), 1);
        due.is("14 OVER", x.watch(), STATE);
        due.is("35 OVER", x.lot(), STATE);
        x.ends(3);
        due.is("11 WATCH 2 of 3", x.state(3), 0);
        due.is("14 one more", x.watch(), 0);
        due.is("14 OVER", x.watch(), STATE);
    }

    private static void flashAndDark() {
        for (int light = 0; light < 16; light++) {
            int flash = light / 4;
            int dark = light % 4;
            LightHalves x = Due.one(COASTER, 50, 0, 0);
            x.ship(BRIG, 50, 0, 1);
            due.is("6 light", x.light(0, light), 6);
            due.is("11 LIGHT", x.state(5), light);
            due.is("3 FLASH of " + light, x.shipOf(0, 5), 2 * flash);
            due.is("3 DARK of " + light, x.shipOf(1, 5), 3 + dark);
            due.is("13 FLASH of " + light, Due.rules(x, "ship if flash = " + flash + " stand;"), 1);
            due.is("13 FLASH of " + light, x.shipOf(0, 9), 1);
        }
    }

    private static void lightBehindTheLast() {
        LightHalves y = new LightHalves();
        for (int watch = 0; watch < 16; watch++) {
            due.is("6 at first", y.light(watch, 15), 6);
        }
        LightHalves x = new LightHalves();
        for (int kind = TENDER; kind <= CAPTAIN; kind++) {
            x.ship(kind, 99, 0, kind);
        }
        Due.rules(x, "ship if flash = 0 stand;");
        x.ends(16);
        x.light(15, 13);
        Due.watches(x, 15);
        due.is("11 LIGHT of WATCH 15", x.state(5), 13);
        due.is("3 FLASH of WATCH 15", x.shipOf(1, 5), 6);
        x.watch();
        due.is("11 LIGHT behind WATCH 15", x.state(5), 0);
        int[] nears = {0, 0, 0, 3, 3};
        int[] reaches = {20, 15, 15, 10, 5};
        for (int k = 0; k < 5; k++) {
            due.is("3 NEARS behind WATCH 15, KIND " + (k + 1), x.shipOf(k, 5), nears[k]);
            due.is("3 REACHES behind WATCH 15, KIND " + (k + 1), x.shipOf(k, 6), reaches[k]);
            due.is("3 WILL by no FLASH", x.shipOf(k, 9), 1);
        }
        due.is("6 there is no more", x.light(16, 0), BAD);
    }

    private static void lanes() {
        LightHalves x = new LightHalves();
        for (int f = 0; f < 6; f++) {
            due.is("8 CURRENT at first", x.laneOf(f, 0), 0);
            due.is("8 BUOY at first", x.laneOf(f, 1), 0);
            due.is("7 the most", x.lane(f, 0, 9), 0);
            due.is("7 above", x.lane(f, 0, 10), BAD);
            due.is("7 below", x.lane(f, 1, -1), BAD);
            due.is("7 the most", x.lane(f, 1, 9), 0);
            due.is("7 the least again", x.lane(f, 1, 0), 9);
            due.is("8 CURRENT", x.laneOf(f, 0), 9);
            due.is("8 BUOY", x.laneOf(f, 1), 0);
        }
        due.is("7 LANE 6", x.lane(6, 0, 1), BAD);
        due.is("8 LANE 6", x.laneOf(6, 0), BAD);
        due.is("7 LANE -1", x.lane(-1, 0, 1), BAD);
        due.is("8 LANE -1", x.laneOf(-1, 0), BAD);
    }

    private static void score() {
        LightHalves x = Due.twoBrigs();
        due.is("11 at first", x.state(2), 0);
        due.is("14 watch", x.watch(), 12);
        due.is("11 one WATCH", x.state(2), 12);
        due.is("44 goAll", Due.pass(x, 2), 13);
        due.is("11 by goAll, too", x.state(2), 25);
        due.is("35 lot", x.lot(), 2);
        due.is("11 by LOT, too", x.state(2), 27);
        x.on(16);
        x.wouldBe(3, 0, 1);
        x.times(9, 0);
        due.is("11 by what is but asked not", x.state(2), 27);
        x.change(0, 4, 0);
        x.change(1, 4, 0);
        due.is("11 WATCHES gone by stay", x.state(2), 27);
    }

    private static void sixShips() {
        LightHalves x = new LightHalves();
        for (int k = 0; k < 6; k++) {
            due.is("2 how many ahead", x.many(0), k);
            due.is("2 the number of each", x.ship(1 + k % 5, k, k, k), k);
        }
        due.is("2 the seventh", x.ship(BRIG, 20, 5, 1), FULL);
        due.is("2 how many", x.many(0), 6);
        for (int k = 0; k < 6; k++) {
            due.is("3 KIND of " + k, x.shipOf(k, 0), 1 + k % 5);
            due.is("3 OFF of " + k, x.shipOf(k, 1), k);
        }
        due.is("3 of no seventh", x.shipOf(6, 0), BAD);
    }

    private static void numbersOfAShip() {
        LightHalves x = new LightHalves();
        due.is("2 all the least", x.ship(1, 0, 0, 0), 0);
        due.is("2 all the most", x.ship(5, 99, 9, 5), 1);
        due.is("2 100 OFF", x.ship(1, 100, 0, 0), BAD);
        due.is("2 -1 OFF", x.ship(1, -1, 0, 0), BAD);
        due.is("2 TRIM 10", x.ship(1, 0, 10, 0), BAD);
        due.is("2 TRIM -1", x.ship(1, 0, -1, 0), BAD);
        due.is("2 LANE 6", x.ship(1, 0, 0, 6), BAD);
        due.is("2 LANE -1", x.ship(1, 0, 0, -1), BAD);
        int[] most = {5, 99, 9, 5}, least = {1, 0, 0, 0};
        for (int what = 0; what < 4; what++) {
            due.is("3 the least", x.shipOf(0, what), least[what]);
            due.is("3 the most", x.shipOf(1, what), most[what]);
        }
        for (int what = 1; what < 4; what++) {
            due.is("4 to the most", x.change(0, what, most[what]), least[what]);
            due.is("4 above", x.change(0, what, most[what] + 1), BAD);
            due.is("4 to the least", x.change(1, what, 0), most[what]);
            due.is("4 below", x.change(1, what, -1), BAD);
            due.is("3 the most", x.shipOf(0, what), most[what]);
            due.is("3 the least", x.shipOf(1, what), 0);
        }
    }

    private static void notHomeAtFirst() {
        LightHalves x = new LightHalves();
        x.keep();
        x.ship(BRIG, 20, 5, 0);
        due.is("3 at first", x.shipOf(0, 4), 0);
        due.is("4 HOME is 1", x.change(0, 4, 1), 0);
        due.is("4 it is", x.change(0, 4, 1), 1);
        due.is("4 2 is no HOME", x.change(0, 4, 2), BAD);
        due.is("4 nor is -1", x.change(0, 4, -1), BAD);
        due.is("3 HOME", x.shipOf(0, 4), 1);
        x.again();
        x.ship(BRIG, 20, 5, 0);
        due.is("2 one who comes by a number that was HOME", x.shipOf(0, 4), 0);
    }

    private static void onTheRock() {
        LightHalves x = Due.one(BRIG, 1, 5, 0);
        due.is("11 1 OFF", x.state(6), 0);
        x.change(0, 1, 0);
        due.is("11 0 OFF", x.state(6), 1);
        x.change(0, 4, 1);
        due.is("11 0 OFF and HOME", x.state(6), 0);
    }

    private static void nearsByLight() {
        int[][] lights = {{0, 0}, {0, 3}, {3, 0}, {3, 3}, {2, 1}};
        for (int[] light : lights) {
            int flash = light[0];
            int dark = light[1];
            LightHalves x = new LightHalves();
            x.light(0, 4 * flash + dark);
            int[] nears = {flash * dark, 2 * flash, 2 * flash + dark, 3 + dark};
            for (int k = 0; k < 4; k++) {
                x.ship(k + 1, 50, 5, k);
                due.is("3 KIND " + (k + 1) + " by FLASH " + flash + ", DARK " + dark, x.shipOf(k, 5), nears[k]);
            }
        }
    }

    private static void captainNears() {
        LightHalves x = Due.one(CAPTAIN, 99, 0, 0);
        x.ends(16);
        Due.rules(x, "ship stand;");
        for (int watch = 0; watch < 16; watch++) {
            due.is("3 captain in WATCH " + watch, x.shipOf(0, 5), watch % 3 == 0 ? 0 : 5);
            x.watch();
        }
        due.is("3 captain in WATCH 16, without DARK", x.shipOf(0, 5), 3);
        LightHalves y = Due.one(CAPTAIN, 50, 0, 2);
        y.lane(2, 0, 9);
        due.is("3 CURRENT is added to her 0, too", y.shipOf(0, 5), 9);
        y.watch();
        due.is("3 by CURRENT alone", y.shipOf(0, 1), 41);
        due.is("3 CURRENT is added", y.shipOf(0, 5), 14);
    }

    private static void nearsByLane() {
        LightHalves x = Due.one(BRIG, 50, 5, 3);
        for (int others = 1; others < 6; others++) {
            x.ship(BRIG, 50, 5, 3);
            due.is("3 with " + others + " others", x.shipOf(0, 5), 5 - others);
        }
        x.lane(3, 0, 9);
        x.lane(2, 0, 4);
        due.is("3 with CURRENT", x.shipOf(0, 5), 9);
        x.change(5, 1, 0);
        due.is("3 one ON THE ROCK counts", x.shipOf(0, 5), 9);
        x.change(5, 4, 1);
        due.is("3 one that is HOME doesn't", x.shipOf(0, 5), 10);
        x.change(4, 3, 2);
        due.is("3 nor one of another LANE", x.shipOf(0, 5), 11);
        due.is("3 herself she doesn't count", x.shipOf(4, 5), 9);
    }

    private static void nearsNoLessThanNothing() {
        LightHalves x = new LightHalves();
        x.light(0, 0);
        for (int k = 0; k < 6; k++) {
            x.ship(COASTER, 50, 5, 1);
        }
        due.is("3 0 less 5", x.shipOf(0, 5), 0);
        x.lane(1, 0, 4);
        due.is("3 4 less 5", x.shipOf(0, 5), 0);
        x.lane(1, 0, 5);
        due.is("3 5 less 5", x.shipOf(0, 5), 0);
        x.lane(1, 0, 6);
        due.is("3 6 less 5", x.shipOf(0, 5), 1);
        x.lane(1, 0, 0);
        x.watch();
        due.is("14 she is no farther OFF for it", x.shipOf(0, 1), 50);
    }

    private static void reachesByTrim() {
        LightHalves x = new LightHalves();
        x.ship(TENDER, 50, 0, 0);
        x.ship(COASTER, 50, 0, 1);
        for (int light = 0; light < 16; light += 5) {
            x.light(0, light);
            for (int trim = 0; trim <= 9; trim += 9) {
                x.change(0, 2, trim);
                x.change(1, 2, trim);
                due.is("3 a tender with TRIM " + trim, x.shipOf(0, 6), 20);
                due.is("3 a coaster with TRIM " + trim, x.shipOf(1, 6), 15 + 2 * trim);
            }
        }
    }

    /** What she REACHES by a LIGHT with TRIM 0, and with TRIM 9. */
    private static void reaches(int kind, int light, int least, int most) {
        LightHalves x = Due.one(kind, 50, 0, 0);
        x.light(0, light);
        due.is("3 KIND " + kind + " by LIGHT " + light + ", TRIM 0", x.shipOf(0, 6), least);
        x.change(0, 2, 9);
        due.is("3 KIND " + kind + " by LIGHT " + light + ", TRIM 9", x.shipOf(0, 6), most);
    }

    /** She REACHES 6 at least, so the 0 of the document never comes to be. */
    private static void collierReaches() {
        reaches(COLLIER, 3, 15, 33);
        reaches(COLLIER, 4, 12, 30);
        reaches(COLLIER, 15, 6, 24);
    }

    private static void brigReaches() {
        reaches(BRIG, 3, 10, 28);
        reaches(BRIG, 4, 13, 31);
        reaches(BRIG, 15, 19, 37);
    }

    private static void captainReaches() {
        reaches(CAPTAIN, 3, 5, 14);
        reaches(CAPTAIN, 8, 8, 17);
    }

    private static void halves() {
        reaches(CAPTAIN, 4, 6, 15);
        reaches(CAPTAIN, 15, 9, 18);
    }

    private static void reachesByBuoy() {
        for (int kind = TENDER; kind <= CAPTAIN; kind++) {
            LightHalves x = Due.one(kind, 50, 4, 2);
            x.light(0, 15);
            int without = x.shipOf(0, 6);
            x.lane(1, 1, 5);
            due.is("3 by no other LANE's", x.shipOf(0, 6), without);
            x.lane(2, 1, 9);
            due.is("3 all of it, a captain too", x.shipOf(0, 6), without + 9);
            x.lane(2, 1, 0);
            due.is("3 BUOY 0", x.shipOf(0, 6), without);
        }
    }

    private static void paysByTrim() {
        LightHalves x = Due.one(TENDER, 20, 0, 0);
        for (int trim = 0; trim <= 9; trim++) {
            x.change(0, 2, trim);
            due.is("3 TRIM " + trim, x.shipOf(0, 7), 6 + trim);
        }
    }

    private static void paysByOff() {
        for (int kind = TENDER; kind <= CAPTAIN; kind++) {
            LightHalves x = Due.one(kind, 0, 3, 0);
            int reaches = x.shipOf(0, 6);
            int[][] byOff = {{0, 0}, {1, 9}, {reaches, 9}, {reaches + 1, 0}, {99, 0}};
            for (int[] of : byOff) {
                x.change(0, 1, of[0]);
                due.is("3 KIND " + kind + ", " + of[0] + " OFF", x.shipOf(0, 7), of[1]);
            }
            x.change(0, 1, 1);
            x.change(0, 4, 1);
            due.is("3 HOME", x.shipOf(0, 7), 0);
        }
    }

    private static void mayEnter() {
        LightHalves x = Due.one(BRIG, 23, 5, 0);
        due.is("3 as far as she REACHES", x.shipOf(0, 8), 1);
        x.change(0, 1, 24);
        due.is("3 one more", x.shipOf(0, 8), 0);
        due.is("3 her WILL is to enter all the same", x.shipOf(0, 9), 0);
        x.change(0, 1, 0);
        due.is("3 ON THE ROCK", x.shipOf(0, 8), 0);
        x.change(0, 1, 1);
        due.is("3 1 OFF", x.shipOf(0, 8), 1);
        x.change(0, 4, 1);
        due.is("3 HOME", x.shipOf(0, 8), 0);
        x.change(0, 4, 0);
        Due.rules(x, "ship stand;");
        due.is("3 who stands", x.shipOf(0, 8), 0);
        Due.rules(x, "ship hail;");
        due.is("3 who is hailed", x.shipOf(0, 8), 0);
        Due.rules(x, "ship enter;");
        due.is("3 who enters", x.shipOf(0, 8), 1);
    }

    private static void nearsThoughHome() {
        LightHalves x = Due.twoBrigs();
        x.change(1, 3, 0);
        x.change(0, 4, 1);
        due.is("3 HOME", x.shipOf(0, 5), 4);
        due.is("3 not HOME", x.shipOf(1, 5), 5);
        due.is("3 what she REACHES though HOME", x.shipOf(0, 6), 23);
    }

    private static void willAsAllIsNow() {
        LightHalves x = Due.one(BRIG, 20, 5, 0);
        due.is("3 no RULE", x.shipOf(0, 9), 0);
        Due.rules(x, "ship if watch = 1 stand; ship if off = 99 hail;");
        due.is("3 WATCH 0", x.shipOf(0, 9), 0);
        x.change(0, 1, 99);
        due.is("3 99 OFF", x.shipOf(0, 9), 2);
        x.watch();
        due.is("3 WATCH 1", x.shipOf(0, 9), 1);
        x.change(0, 4, 1);
        due.is("3 HOME", x.shipOf(0, 9), 1);
    }

    private static void remadeToEach() {
        LightHalves x = Due.one(BRIG, 20, 5, 3);
        int was = BRIG;
        for (int kind = TENDER; kind <= CAPTAIN; kind++) {
            due.is("5 to KIND " + kind, x.remake(0, kind), was);
            due.is("5 it is", x.shipOf(0, 0), kind);
            was = kind;
        }
        due.is("5 to none", x.remake(0, 0), BAD);
        due.is("5 to none", x.remake(0, 6), BAD);
        due.is("5 as she was", x.shipOf(0, 0), CAPTAIN);
        due.is("5 OFF as she was", x.shipOf(0, 1), 20);
    }

    private static void endAtWatch() {
        LightHalves x = new LightHalves();
        Due.watches(x, 12);
        due.is("9 one below WATCH", x.ends(11), STATE);
        due.is("9 as it was", x.state(1), 12);
        due.is("9 WATCH itself", x.ends(12), 12);
        due.is("9 above", x.ends(16), 12);
        due.is("9 WATCH itself", x.ends(12), 16);
        due.is("9 no END at all", x.ends(0), BAD);
        due.is("9 no END at all", x.ends(17), BAD);
        x.anew();
        due.is("9 WATCH 0", x.ends(1), 12);
    }

    private static void anew() {
        LightHalves x = Due.twoBrigs();
        due.is("10 WATCH 0", x.anew(), 0);
        x.ends(16);
        Due.watches(x, 16);
        due.is("10 OVER", x.state(3), 1);
        due.is("10 WATCH 16", x.anew(), 16);
        due.is("10 OVER no more", x.state(3), 0);
        due.is("10 WATCH", x.state(0), 0);
        due.is("10 END stays", x.state(1), 16);
        due.is("10 SCORE", x.state(2), 0);
        due.is("10 none is HOME", x.state(4), 0);
        due.is("10 OFF as she is", x.shipOf(0, 1), 20);
        due.is("10 OFF as she is", x.shipOf(1, 1), 15);
        due.is("10 all goes by again", x.watch(), 12);
    }

    private static void allOnTheRock() {
        LightHalves x = new LightHalves();
        for (int k = 0; k < 6; k++) {
            due.is("11 how many", x.state(6), k);
            x.ship(BRIG, 0, 5, 0);
        }
        due.is("11 all", x.state(6), 6);
    }
}
