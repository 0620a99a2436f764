/** Promises 30 to 36: reports, lone ships, lots. */
public final class StrangersTest {
    private static final int BAD = LightHalves.BAD, FULL = LightHalves.FULL, NONE = LightHalves.NONE;
    private static final Due due = new Due("StrangersTest");

    public static void main(String[] args) {
        due.says("A REPORT: its number. BAD: also MOST below LEAST; FULL.", StrangersTest::report);
        due.says("LONE SHIPS that FIT: what = 0 how many; of that with the least KIND, of these the least TRIM, of"
            + " these the least OFF: 1 KIND, 2 TRIM, 3 how far OFF at first. BAD; NONE (of 1, 2, 3): there are none.",
            StrangersTest::lone);
        lonePays();
        loneFarOn();
        due.says("LIAR. NONE: some FIT; or there is no such REPORT.", StrangersTest::liar);
        due.says("LOT: A WATCHE by chance: z (an int; 1 at first) becomes z * 1103515245 + 12345; the ACT in it is what"
            + " z >>> 16 leaves by how many SHIPS there are and 1.", StrangersTest::lot);
        due.says("How many of n (1 to 40) times all WATCHES yet by LOT, each from how it is now (z goes on from one to"
            + " the next), are WORTH v (0 to 999) or more (all is as it was in the end, z, too). BAD.",
            StrangersTest::times);
        due.end();
    }

    private static void report() {
        LightHalves x = new LightHalves();
        int[][] wrong = {{-1, 0, 0, 0}, {16, 0, 0, 0}, {0, -1, 0, 0}, {0, 2, 0, 0}, {0, 0, -1, 0}, {0, 0, 0, 100},
            {0, 1, 0, 17}, {0, 1, -1, 0}, {0, 0, 5, 4}, {0, 1, 5, 4}, {0, 0, 100, 100}, {0, 1, 17, 17}};
        for (int[] w : wrong) {
            due.is("30 report", x.report(w[0], w[1], w[2], w[3]), BAD);
        }
        due.is("30 report", x.report(0, 0, 0, 99), 0);
        due.is("30 report", x.report(15, 0, 99, 99), 1);
        due.is("30 report", x.report(0, 1, 0, 16), 2);
        due.is("30 report", x.report(15, 1, 16, 16), 3);
        due.is("30 report", x.report(3, 0, 4, 4), 4);
        due.is("30 report", x.report(3, 0, 4, 4), 5);
        due.is("30 full", x.report(3, 0, 4, 4), FULL);
        due.is("30 BAD ahead of FULL", x.report(3, 0, 5, 4), BAD);
        due.is("31 many", x.many(3), 6);
        due.is("31 forget", x.forget(), 6);
        due.is("31 forget", x.forget(), 0);
        due.is("31 many", x.many(3), 0);
        due.is("30 from 0 again", x.report(3, 0, 4, 4), 0);
    }

    private static void loneIs(LightHalves x, String of, int... want) {
        for (int what = 0; what < 4; what++) {
            due.is("32 " + of + ", lone(" + what + ")", x.lone(what), want[what]);
        }
    }

    private static void lone() {
        LightHalves x = Due.one(4, 50, 5, 0);
        loneIs(x, "no REPORTS", 500, 1, 0, 9);
        x.report(0, 0, 10, 20);
        loneIs(x, "18 OFF at first", 50, 1, 0, 18);
        x.forget();
        x.report(1, 0, 7, 7);
        loneIs(x, "7 OFF behind one WATCH", 20, 1, 0, 9);
        x.lane(0, 0, 9);
        x.lane(0, 1, 9);
        x.watch();
        x.ends(1);
        loneIs(x, "neither CURRENT, WATCH nor END count", 20, 1, 0, 9);
        x.light(0, 0);
        loneIs(x, "in the dark none but a brig", 0, NONE, NONE, NONE);
        x.light(0, 1);
        loneIs(x, "as before", 0, NONE, NONE, NONE);
        x.forget();
        x.report(1, 0, 5, 5);
        loneIs(x, "DARK 1", 10, 4, 0, 9);
        due.is("32 lone", x.lone(-1), BAD);
        due.is("32 lone", x.lone(4), BAD);
    }

    private static void lonePays() {
        LightHalves x = new LightHalves();
        x.report(1, 1, 1, 1);
        loneIs(x, "paid in WATCH 0", 20 + 22 + 19 + 20 + 7, 1, 0, 9);
        x.report(0, 0, 27, 27);
        loneIs(x, "from 27", 4 + 2 + 3, 2, 6, 27);
        x.report(0, 1, 1, 16);
        loneIs(x, "paid ahead of all", 0, NONE, NONE, NONE);
    }

    /** A captain nears by 5, but not in WATCHES 0, 3, .. 12: 15 WATCHES leave her 40 of 90. */
    private static void loneFarOn() {
        LightHalves x = new LightHalves();
        x.report(15, 0, 40, 40);
        x.report(0, 0, 90, 90);
        loneIs(x, "15 WATCHES", 10, 5, 0, 90);
        x.forget();
        x.report(0, 0, 9, 9);
        x.report(15, 1, 5, 16);
        loneIs(x, "on the rock none pays: 9, 7, 5, 3, 1", 20, 1, 0, 9);
    }

    private static void liar() {
        LightHalves x = new LightHalves();
        due.is("33 no REPORTS", x.liar(), NONE);
        x.report(0, 0, 9, 9);
        due.is("33 some fit", x.liar(), NONE);
        x.report(0, 0, 10, 17);
        due.is("33 the second", x.liar(), 1);
        x.forget();
        x.report(0, 0, 10, 17);
        due.is("33 the only one", x.liar(), 0);
        x.forget();
        x.report(0, 0, 9, 9);
        x.report(0, 0, 18, 18);
        due.is("33 the least", x.liar(), 0);
        x.report(0, 0, 27, 27);
        due.is("33 no one alone", x.liar(), NONE);
        x.forget();
        x.report(0, 0, 9, 18);
        x.report(0, 0, 9, 9);
        x.report(0, 0, 18, 18);
        due.is("33 the least by which it would fit", x.liar(), 1);
        due.is("33 changes nothing", x.many(3), 3);
        x.forget();
        x.report(1, 0, 6, 6);
        due.is("32 a ship of no KIND 1 to 5 would", x.lone(0), 0);
        due.is("33 a ship of no KIND 1 to 5 would", x.liar(), 0);
    }

    private static void lot() {
        LightHalves x = Due.twoBrigs();
        due.is("35 lot", x.lot(), 12);
        due.is("35 ACT 2", x.state(4), 2);
        due.is("35 score", x.state(2), 12);
        due.is("34 z", x.seed(7), 1103527590);
        due.is("34 z", x.seed(Integer.MIN_VALUE), 7);
        due.is("34 z", x.seed(1), Integer.MIN_VALUE);
        x.ends(1);
        due.is("35 over", x.lot(), LightHalves.STATE);
        due.is("35 a refusal leaves z", x.seed(1), 1);
        LightHalves y = Due.one(4, 20, 5, 0);
        y.seed(-9);
        due.is("35 z below 0", y.lot(), 12);
        LightHalves none = new LightHalves();
        due.is("35 no SHIPS", none.lot(), 0);
    }

    private static void times() {
        LightHalves x = Due.one(4, 20, 5, 0);
        x.ends(1);
        due.is("36 times", x.times(2, 1), 0);
        due.is("36 times", x.times(3, 1), 1);
        due.is("36 times", x.times(4, 1), 2);
        due.is("36 times", x.times(4, 12), 2);
        due.is("36 times", x.times(4, 13), 0);
        due.is("36 times", x.times(40, 0), 40);
        due.is("36 times", x.times(1, 999), 0);
        due.is("36 all is as it was", x.state(0) + x.state(2) + x.state(4), 0);
        due.is("36 z, too", x.seed(1), 1);
        int[][] wrong = {{0, 0}, {41, 0}, {-1, 0}, {1, -1}, {1, 1000}};
        for (int[] w : wrong) {
            due.is("36 times", x.times(w[0], w[1]), BAD);
        }
        x.watch();
        due.is("36 over", x.times(5, 0), 5);
        due.is("36 over", x.times(5, 1), 0);
    }
}
