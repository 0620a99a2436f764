/** PLANS, LOG, BAR, the GAME and promises 23 to 29: a test of its own for each sentence that names a boundary. */
public final class PlansEdgesTest {
    private static final int BAD = LightHalves.BAD, NONE = LightHalves.NONE;
    private static final int BRIG = 4;
    private static final Due due = new Due("PlansEdgesTest");

    public static void main(String[] args) {
        due.says("A PLAN of n: n WATCHES (fewer, if it is OVER)", PlansEdgesTest::fewerIfOver);
        due.says("0 none is told, or 1 more than the number of the SHIP that is", PlansEdgesTest::acts);
        due.says("Its WORTH: of these WATCHES together.", PlansEdgesTest::worthTogether);
        due.says("the FIRST of these is that with the lesser ACT where they are unlike first", PlansEdgesTest::first);
        due.says("WORTH of the BEST PLANS of n (0 to 4). BAD.", PlansEdgesTest::bestOfNone);
        due.says("The i-th (0 to 3) ACT of the FIRST of them. BAD; NONE: it has not so many.", PlansEdgesTest::ith);
        due.says("How many of them there are. BAD.", PlansEdgesTest::ways);
        due.says("LOG by n, a set of SHIPS: the fewest ACTS that aren't 0 in a PLAN of n behind which each of them is HOME.",
            PlansEdgesTest::fewestActs);
        due.says("LOG by n (0 to 4), a set of SHIPS (of such as there are). BAD; NONE.", PlansEdgesTest::log);
        due.says("BAR: the least of them that is so behind no PLAN of n.", PlansEdgesTest::bar);
        due.says("BAR likewise. BAD; NONE: each is so behind some.", PlansEdgesTest::noBar);
        due.says("GAME of n: two in turn, ahead of n WATCHES (till it is OVER) each an ACT (also 0)", PlansEdgesTest::turns);
        due.says("the first one wants as much WORTH as can be, the other one as little", PlansEdgesTest::mostAndLeast);
        due.says("VALUE of a GAME of n (1 to 4). BAD.", PlansEdgesTest::game);
        due.says("The least ACT by which who begins comes to it. BAD; NONE: it is OVER.", PlansEdgesTest::play);
        due.end();
    }

    private static LightHalves brigs(int many) {
        LightHalves x = new LightHalves();
        for (int k = 0; k < many; k++) {
            x.ship(BRIG, 20, 5, k);
        }
        return x;
    }

    private static void fewerIfOver() {
        int[] ways = {1, 1, 2, 4, 8};
        for (int left = 0; left <= 4; left++) {
            LightHalves x = Due.one(BRIG, 20, 5, 0);
            x.ends(16);
            for (int watch = 0; watch < 16 - left; watch++) {
                Due.pass(x, 0);
            }
            x.change(0, 1, 20);
            due.is("23 with " + left + " left", x.best(4), left == 0 ? 0 : 11 + left);
            due.is("25 with " + left + " left", x.ways(4), ways[left]);
            due.is("28 with " + left + " left", x.game(4), left == 0 ? 0 : 11 + left);
            due.is("37 with " + left + " left", x.prove(4), left);
            due.is("26 with " + left + " left", x.log(4, 1), left == 0 ? NONE : 1);
            due.is("27 with " + left + " left", x.bars(4, 1), left == 0 ? 0 : NONE);
            for (int i = 0; i < 4; i++) {
                due.is("24 with " + left + " left", x.ith(4, i), i >= left ? NONE : i == 0 ? 1 : 0);
            }
        }
    }

    private static void acts() {
        LightHalves x = new LightHalves();
        for (int k = 0; k < 5; k++) {
            x.ship(BRIG, 99, 5, k);
        }
        due.is("24 none is worth a word", x.ith(1, 0), 0);
        x.ship(BRIG, 20, 5, 5);
        due.is("24 SHIP 5", x.ith(1, 0), 6);
        due.is("29 SHIP 5", x.play(1), 6);
        x.change(0, 1, 20);
        due.is("24 SHIP 0", x.ith(1, 0), 1);
        due.is("29 SHIP 0", x.play(1), 1);
        due.is("37 SHIP 0", x.prove(1), 1);
        x.change(0, 1, 99);
        x.change(5, 1, 99);
        due.is("24 none again", x.ith(1, 0), 0);
        due.is("29 none again", x.play(1), 0);
        due.is("25 all as good as the other", x.ways(1), 7);
        x.prove(1);
        due.is("38 none again", x.row(0, 0), 0);
    }

    private static void worthTogether() {
        LightHalves x = brigs(4);
        due.is("23 one", x.best(1), 12);
        due.is("23 two", x.best(2), 12 + 13);
        due.is("23 three", x.best(3), 12 + 13 + 14);
        x.watch();
        due.is("23 not those gone by", x.best(2), 13 + 14);
    }

    private static void first() {
        LightHalves x = brigs(3);
        due.is("24 of three alike the least", x.ith(2, 0), 1);
        due.is("24 then the next", x.ith(2, 1), 2);
        due.is("25 3 times 2", x.ways(2), 6);
        LightHalves y = Due.one(BRIG, 22, 5, 0);
        y.ship(BRIG, 22, 5, 1);
        y.change(0, 2, 6);
        due.is("24 she that pays more", y.ith(1, 0), 1);
        y.change(1, 2, 7);
        due.is("24 she that pays more", y.ith(1, 0), 2);
        due.is("24 as all come in, the sooner is HOME no sooner", y.ith(2, 0), 1);
        due.is("25 either first", y.ways(2), 2);
        LightHalves z = new LightHalves();
        z.ship(BRIG, 99, 5, 0);
        for (int i = 0; i < 4; i++) {
            due.is("24 where nothing helps, 0", z.ith(4, i), 0);
        }
        due.is("25 where nothing helps", z.ways(4), 16);
    }

    private static void bestOfNone() {
        LightHalves x = brigs(2);
        due.is("23 none", x.best(0), 0);
        due.is("25 the PLAN without an ACT", x.ways(0), 1);
        due.is("24 it has none", x.ith(0, 0), NONE);
        due.is("37 no ROW", x.prove(0), 0);
        due.is("23 5", x.best(5), BAD);
        due.is("23 -1", x.best(-1), BAD);
        due.is("23 4", x.best(4), 12 + 13 + 2 + 2);
    }

    private static void ith() {
        LightHalves x = brigs(4);
        for (int n = 0; n <= 4; n++) {
            for (int i = 0; i < 4; i++) {
                due.is("24 ith(" + n + ", " + i + ")", x.ith(n, i), i < n ? i + 1 : NONE);
            }
            due.is("24 ith(" + n + ", 4)", x.ith(n, 4), BAD);
            due.is("24 ith(" + n + ", -1)", x.ith(n, -1), BAD);
        }
    }

    private static void ways() {
        int[] many = {1, 7, 49, 343, 2401};
        LightHalves x = new LightHalves();
        for (int k = 0; k < 6; k++) {
            x.ship(BRIG, 99, 5, k);
        }
        for (int n = 0; n <= 4; n++) {
            due.is("25 all there are of " + n, x.ways(n), many[n]);
        }
        LightHalves none = new LightHalves();
        due.is("25 without SHIPS", none.ways(4), 1);
        due.is("23 without SHIPS", none.best(4), 0);
        LightHalves home = Due.one(BRIG, 20, 5, 0);
        home.change(0, 4, 1);
        due.is("25 told though HOME", home.ways(2), 4);
        Due.rules(home, "ship hail;");
        due.is("25 told though HOME, hailed", home.ways(2), 4);
        home.change(0, 4, 0);
        due.is("25 hailed each time", home.ways(2), 1);
        home.light(0, 5);
        home.light(1, 5);
        due.is("25 hailed for nothing", home.ways(2), 4);
    }

    private static void fewestActs() {
        LightHalves x = Due.one(BRIG, 38, 5, 0);
        due.is("26 three WATCHES are too few", x.log(3, 1), NONE);
        due.is("26 three 0 and one ACT", x.log(4, 1), 1);
        LightHalves y = brigs(4);
        due.is("26 four of four", y.log(4, 15), 4);
        due.is("26 four of three", y.log(3, 15), NONE);
        due.is("26 two of four", y.log(4, 10), 2);
        y.change(1, 4, 1);
        due.is("26 one HOME ahead", y.log(4, 10), 1);
        due.is("26 three of three", y.log(3, 15), 3);
        LightHalves z = Due.one(BRIG, 20, 5, 0);
        Due.rules(z, "brig if off < 21 hail;");
        due.is("26 hailed off once, then in: 27, 22", z.log(3, 1), 2);
        due.is("26 not in one", z.log(1, 1), NONE);
    }

    private static void log() {
        LightHalves x = brigs(3);
        due.is("26 none asked, none left", x.log(0, 0), 0);
        due.is("26 none asked", x.log(4, 0), 0);
        due.is("26 one asked, none left", x.log(0, 4), NONE);
        due.is("26 all there are", x.log(3, 7), 3);
        due.is("26 one more than there are", x.log(3, 8), BAD);
        due.is("26 with one more than there are", x.log(3, 15), BAD);
        due.is("26 below 0", x.log(3, -1), BAD);
        due.is("26 bit 31", x.log(3, Integer.MIN_VALUE), BAD);
        due.is("26 n 5", x.log(5, 7), BAD);
        due.is("26 n -1", x.log(-1, 7), BAD);
        x.change(2, 4, 1);
        due.is("26 HOME, none left", x.log(0, 4), 0);
        LightHalves six = brigs(6);
        due.is("26 six", six.log(4, 63), NONE);
        due.is("26 four of six", six.log(4, 60), 4);
        due.is("26 a seventh", six.log(4, 64), BAD);
        due.is("26 no SHIPS", new LightHalves().log(4, 0), 0);
        due.is("26 no SHIPS", new LightHalves().log(4, 1), BAD);
    }

    private static void bar() {
        LightHalves x = brigs(6);
        x.change(1, 1, 99);
        x.change(4, 1, 0);
        due.is("27 of all the least", x.bars(4, 63), 1);
        due.is("27 but for her", x.bars(4, 61), 4);
        due.is("27 the last alone", x.bars(4, 16), 4);
        x.change(1, 1, 38);
        due.is("27 three WATCHES are too few", x.bars(3, 63), 1);
        due.is("27 four are not", x.bars(4, 63), 4);
        due.is("27 none left", x.bars(0, 63), 0);
        x.change(0, 4, 1);
        due.is("27 none left, one HOME", x.bars(0, 63), 1);
        due.is("27 SHIP 5, none left", x.bars(0, 32), 5);
    }

    private static void noBar() {
        LightHalves x = brigs(6);
        due.is("27 none asked", x.bars(4, 0), NONE);
        due.is("27 none asked, none left", x.bars(0, 0), NONE);
        due.is("27 each behind some, six behind none", x.bars(1, 63), NONE);
        due.is("27 a seventh", x.bars(1, 64), BAD);
        due.is("27 below 0", x.bars(1, -64), BAD);
        due.is("27 n 5", x.bars(5, 63), BAD);
        due.is("27 n -1", x.bars(-1, 63), BAD);
        due.is("27 no SHIPS", new LightHalves().bars(4, 0), NONE);
        due.is("27 no SHIPS", new LightHalves().bars(4, 1), BAD);
    }

    private static void turns() {
        LightHalves x = brigs(4);
        due.is("28 the first one alone", x.game(1), 12);
        due.is("28 the other tells none", x.game(2), 12 + 1);
        due.is("28 the first one again", x.game(3), 12 + 1 + 13);
        due.is("28 the other again: two come ON THE ROCK", x.game(4), 12 + 1 + 13);
        x.watch();
        due.is("28 who begins wants most in WATCH 1, too", x.game(2), 13 + 2);
        x.ends(2);
        due.is("28 till it is OVER", x.game(4), 13);
        x.watch();
        due.is("28 OVER", x.game(4), 0);
        due.is("28 OVER", x.game(1), 0);
    }

    /** The other one hails her off; the first one had better wait, or not. */
    private static void mostAndLeast() {
        LightHalves x = Due.one(BRIG, 24, 5, 0);
        Due.rules(x, "brig if watch = 1 hail;");
        x.light(1, 4);
        due.is("28 kept out of reach", x.game(3), 0);
        due.is("29 of several the least", x.play(3), 0);
        due.is("23 not by one alone", x.best(3), 12);
        LightHalves y = Due.one(BRIG, 5, 5, 0);
        y.ship(BRIG, 20, 5, 1);
        due.is("28 SHIP 0 enters, and is HOME", y.game(2), 12 + 1);
        due.is("29 else she would be ON THE ROCK", y.play(2), 1);
        y.change(0, 1, 4);
        y.change(0, 2, 0);
        due.is("28 she pays too little now: SHIP 1 enters", y.game(2), 11);
        due.is("29 SHIP 1", y.play(2), 2);
    }

    private static void game() {
        LightHalves x = brigs(1);
        due.is("28 0", x.game(0), BAD);
        due.is("28 1", x.game(1), 12);
        due.is("28 4", x.game(4), 15);
        due.is("28 5", x.game(5), BAD);
        due.is("28 no SHIPS", new LightHalves().game(4), 0);
    }

    private static void play() {
        LightHalves x = brigs(2);
        due.is("29 of two alike the least", x.play(4), 1);
        x.change(0, 1, 99);
        due.is("29 the other", x.play(4), 2);
        x.change(1, 1, 99);
        due.is("29 no ACT does anything", x.play(4), 0);
        due.is("29 0", x.play(0), BAD);
        due.is("29 5", x.play(5), BAD);
        x.ends(1);
        due.is("29 one left", x.play(4), 0);
        x.watch();
        due.is("29 OVER", x.play(4), NONE);
        due.is("29 OVER", x.play(1), NONE);
        due.is("29 no SHIPS", new LightHalves().play(1), 0);
    }
}
