/** Promises 23 to 29: plans, logs and the game of two. */
public final class PlansTest {
    private static final int BAD = LightHalves.BAD, NONE = LightHalves.NONE;
    private static final Due due = new Due("PlansTest");

    public static void main(String[] args) {
        due.says("BEST: those with most WORTH", PlansTest::best);
        ties();
        waiting();
        none();
        due.says("LOG by n (0 to 4), a set of SHIPS (of such as there are). BAD; NONE.", PlansTest::log);
        due.says("BAR likewise. BAD; NONE: each is so behind some.", PlansTest::bars);
        due.says("VALUE of a GAME of n (1 to 4). BAD.", PlansTest::game);
        due.says("VALUE: that, if both play as well as they can.", PlansTest::hostile);
        due.says("n WATCHES (fewer, if it is OVER), ahead of each an ACT", PlansTest::over);
        refusals();
        due.end();
    }

    private static void best() {
        LightHalves x = Due.one(4, 23, 5, 0);
        int[] worth = {0, 12, 13, 14, 15}, ways = {1, 1, 2, 4, 8};
        for (int n = 0; n <= 4; n++) {
            due.is("23 best(" + n + ")", x.best(n), worth[n]);
            due.is("25 ways(" + n + ")", x.ways(n), ways[n]);
            for (int i = 0; i < 4; i++) {
                due.is("24 ith(" + n + ", " + i + ")", x.ith(n, i), i >= n ? NONE : i == 0 ? 1 : 0);
            }
        }
        due.is("23 changes nothing", x.state(0) + x.state(2) + x.state(4), 0);
    }

    private static void ties() {
        LightHalves x = Due.twoBrigs();
        due.is("23 best", x.best(1), 12);
        due.is("24 the lesser ACT", x.ith(1, 0), 1);
        due.is("25 ways", x.ways(1), 2);
        due.is("23 best", x.best(2), 25);
        due.is("24 ith", x.ith(2, 0), 1);
        due.is("24 ith", x.ith(2, 1), 2);
        due.is("25 ways", x.ways(2), 2);
        due.is("25 ways", x.ways(3), 6);
    }

    /** She whose way in closes is told first, though another is less. */
    private static void waiting() {
        LightHalves x = Due.one(4, 17, 0, 0);
        x.ship(4, 5, 9, 1);
        due.is("23 best", x.best(2), 16 + 6 + 2);
        due.is("24 ith", x.ith(2, 0), 2);
        due.is("24 ith", x.ith(2, 1), 1);
        due.is("25 ways", x.ways(2), 1);
    }

    private static void none() {
        LightHalves x = new LightHalves();
        due.is("23 no SHIPS", x.best(4), 0);
        due.is("24 no SHIPS", x.ith(4, 3), 0);
        due.is("25 no SHIPS", x.ways(4), 1);
        due.is("26 no SHIPS", x.log(4, 0), 0);
        due.is("26 no SHIPS", x.log(4, 1), BAD);
        due.is("28 no SHIPS", x.game(4), 0);
        due.is("29 no SHIPS", x.play(4), 0);
        LightHalves y = new LightHalves();
        for (int k = 0; k < 6; k++) {
            y.ship(1, 99, 0, k);
        }
        due.is("25 all alike", y.ways(4), 7 * 7 * 7 * 7);
        due.is("24 all alike", y.ith(4, 0), 0);
    }

    private static void log() {
        LightHalves x = Due.twoBrigs();
        x.ship(1, 99, 0, 2);
        due.is("26 none asked", x.log(0, 0), 0);
        due.is("26 log", x.log(0, 1), NONE);
        due.is("26 log", x.log(1, 1), 1);
        due.is("26 log", x.log(1, 2), 1);
        due.is("26 log", x.log(1, 3), NONE);
        due.is("26 log", x.log(2, 3), 2);
        due.is("26 log", x.log(4, 3), 2);
        due.is("26 log", x.log(4, 4), NONE);
        due.is("26 log", x.log(4, 5), NONE);
        due.is("26 log", x.log(1, 8), BAD);
        due.is("26 log", x.log(1, -1), BAD);
        x.change(2, 4, 1);
        due.is("26 who is HOME needs no ACT", x.log(4, 4), 0);
        due.is("26 log", x.log(4, 7), 2);
        LightHalves y = Due.one(4, 2, 0, 0);
        Due.rules(y, "brig if watch = 0 hail; brig if off < 8 stand;");
        due.is("26 hailed off first, then in", y.log(4, 1), 2);
    }

    private static void bars() {
        LightHalves x = Due.twoBrigs();
        x.ship(1, 99, 0, 2);
        due.is("27 none asked", x.bars(4, 0), NONE);
        due.is("27 each behind some, not all behind one", x.bars(1, 3), NONE);
        due.is("27 bars", x.bars(4, 7), 2);
        due.is("27 bars", x.bars(0, 6), 1);
        due.is("27 bars", x.bars(0, 7), 0);
        due.is("27 bars", x.bars(4, 8), BAD);
        due.is("27 bars", x.bars(4, -1), BAD);
    }

    private static void game() {
        LightHalves x = Due.twoBrigs();
        int[] value = {BAD, 12, 13, 26, 28};
        for (int n = 1; n <= 4; n++) {
            due.is("28 game(" + n + ")", x.game(n), value[n]);
            due.is("29 play(" + n + ")", x.play(n), 1);
        }
        due.is("28 changes nothing", x.state(0) + x.state(2) + x.state(4), 0);
    }

    /** The other one may hail her off so far that she doesn't come in. */
    private static void hostile() {
        LightHalves x = Due.one(4, 24, 5, 0);
        x.ship(1, 99, 0, 1);
        Due.rules(x, "brig if off > 17 hail;");
        for (int watch = 0; watch < 4; watch++) {
            x.light(watch, 5);
        }
        due.is("28 kept off", x.game(4), 0);
        due.is("29 of several the least ACT", x.play(4), 0);
        due.is("23 but let in by one alone", x.best(4), 13);
        due.is("24 ith", x.ith(4, 0), 0);
        due.is("24 ith", x.ith(4, 2), 1);
    }

    private static void over() {
        LightHalves x = Due.twoBrigs();
        x.ends(2);
        due.is("23 fewer", x.best(4), 25);
        due.is("24 fewer", x.ith(4, 1), 2);
        due.is("24 fewer", x.ith(4, 2), NONE);
        due.is("25 fewer", x.ways(4), 2);
        due.is("28 fewer", x.game(4), 13);
        x.watch();
        x.watch();
        due.is("23 over", x.best(4), 0);
        due.is("24 over", x.ith(4, 0), NONE);
        due.is("25 over", x.ways(4), 1);
        due.is("26 over", x.log(4, 3), 0);
        due.is("27 over", x.bars(4, 3), NONE);
        due.is("28 over", x.game(4), 0);
        due.is("29 over", x.play(4), NONE);
        due.is("29 BAD ahead of NONE", x.play(5), BAD);
    }

    private static void refusals() {
        LightHalves x = Due.twoBrigs();
        for (int n : new int[] {-1, 5, Integer.MIN_VALUE, Integer.MAX_VALUE}) {
            due.is("23 best", x.best(n), BAD);
            due.is("24 ith", x.ith(n, 0), BAD);
            due.is("25 ways", x.ways(n), BAD);
            due.is("26 log", x.log(n, 0), BAD);
            due.is("27 bars", x.bars(n, 0), BAD);
            due.is("28 game", x.game(n), BAD);
            due.is("29 play", x.play(n), BAD);
        }
        due.is("24 ith", x.ith(4, -1), BAD);
        due.is("24 ith", x.ith(4, 4), BAD);
        due.is("24 BAD ahead of NONE", x.ith(0, 4), BAD);
        due.is("28 game", x.game(0), BAD);
        due.is("29 play", x.play(0), BAD);
    }
}
