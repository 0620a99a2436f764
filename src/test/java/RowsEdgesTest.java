/** ROWS, THE READER and promises 37 to 40: a test of its own for each sentence that names a boundary. */
public final class RowsEdgesTest {
    private static final int BAD = LightHalves.BAD, NO_ROW = -9;
    private static final int ACT = 0, WORTH = 1, HOME = 2;
    private static final Due due = new Due("RowsEdgesTest");

    public static void main(String[] args) {
        due.says("ROWS of the FIRST of the BEST PLANS: for each WATCHE (ACT, what it is WORTH, SHIPS that are HOME behind it,"
            + " as a set)", RowsEdgesTest::fourRows);
        due.says("ROWS of the FIRST of the BEST PLANS of n (0 to 4): how many. BAD.", RowsEdgesTest::howMany);
        due.says("-9: there is none such, another what.", RowsEdgesTest::noneSuch);
        due.says("It becomes v: what it was. -9 likewise.", RowsEdgesTest::altered);
        due.says("right is one whose ACT is one", RowsEdgesTest::actIsOne);
        due.says("if it isn't OVER", RowsEdgesTest::over);
        due.says("the others as they are then", RowsEdgesTest::asTheyAreThen);
        due.says("from how it is now", RowsEdgesTest::fromNow);
        due.says("0 all is right; else the first ROW that isn't, and 1 more.", RowsEdgesTest::firstThatIsnt);
        due.end();
    }

    private static void rowIs(LightHalves x, int k, int... want) {
        for (int what = 0; what < 3; what++) {
            due.is("38 row(" + k + ", " + what + ")", x.row(k, what), want[what]);
        }
    }

    private static LightHalves fourBrigs() {
        LightHalves x = new LightHalves();
        for (int k = 0; k < 4; k++) {
            x.ship(4, 20, 5, k);
        }
        return x;
    }

    private static void fourRows() {
        LightHalves x = fourBrigs();
        due.is("37 prove", x.prove(4), 4);
        rowIs(x, 0, 1, 12, 1);
        rowIs(x, 1, 2, 13, 3);
        rowIs(x, 2, 3, 14, 7);
        rowIs(x, 3, 4, 15, 15);
        LightHalves y = Due.one(4, 33, 5, 0);
        y.ship(4, 0, 5, 1);
        due.is("37 two 0 ahead, the third enters, one is ON THE ROCK", y.prove(3), 3);
        rowIs(y, 0, 0, 0, 0);
        rowIs(y, 1, 0, 0, 0);
        rowIs(y, 2, 1, 11, 1);
    }

    private static void howMany() {
        LightHalves x = fourBrigs();
        for (int n = 4; n >= 0; n--) {
            due.is("37 of " + n, x.prove(n), n);
            due.is("50 ROWS", x.many(4), n);
            due.is("38 the last", x.row(n - 1, ACT), n == 0 ? NO_ROW : n);
            due.is("38 behind it", x.row(n, ACT), NO_ROW);
        }
        x.prove(3);
        due.is("37 5", x.prove(5), BAD);
        due.is("37 -1", x.prove(-1), BAD);
        due.is("50 as they were", x.many(4), 3);
        due.is("37 no SHIPS, three WATCHES of 0", new LightHalves().prove(3), 3);
        x.ends(2);
        due.is("37 two left", x.prove(4), 2);
        Due.watches(x, 2);
        due.is("37 OVER", x.prove(4), 0);
        due.is("50 none", x.many(4), 0);
    }

    private static void noneSuch() {
        LightHalves x = fourBrigs();
        due.is("38 none yet", x.row(0, ACT), NO_ROW);
        due.is("39 none yet", x.alterRow(0, ACT, 1), NO_ROW);
        x.prove(2);
        due.is("38 the first", x.row(0, HOME), 1);
        due.is("38 the last", x.row(1, HOME), 3);
        int[][] wrong = {{2, 0}, {-1, 0}, {0, 3}, {0, -1}, {1, 3}, {2, -1}, {Integer.MAX_VALUE, 2}, {0, Integer.MAX_VALUE}};
        for (int[] w : wrong) {
            due.is("38 row(" + w[0] + ", " + w[1] + ")", x.row(w[0], w[1]), NO_ROW);
            due.is("39 alterRow(" + w[0] + ", " + w[1] + ")", x.alterRow(w[0], w[1], 7), NO_ROW);
        }
        rowIs(x, 0, 1, 12, 1);
        rowIs(x, 1, 2, 13, 3);
        x.prove(4);
        x.prove(1);
        due.is("38 those ahead are gone", x.row(1, ACT), NO_ROW);
    }

    private static void altered() {
        LightHalves x = fourBrigs();
        x.prove(2);
        int[] values = {Integer.MIN_VALUE, -9, -1, 0, Integer.MAX_VALUE};
        for (int what = 0; what < 3; what++) {
            int was = x.row(1, what);
            for (int v : values) {
                due.is("39 to " + v, x.alterRow(1, what, v), was);
                due.is("38 it is", x.row(1, what), v);
                was = v;
            }
        }
        rowIs(x, 0, 1, 12, 1);
        x.prove(2);
        rowIs(x, 1, 2, 13, 3);
    }

    private static int judged(int k, int what, int v) {
        LightHalves x = fourBrigs();
        x.prove(4);
        x.alterRow(k, what, v);
        return x.judge();
    }

    private static void actIsOne() {
        LightHalves x = new LightHalves();
        for (int k = 0; k < 6; k++) {
            x.ship(4, 99, 5, k);
        }
        x.prove(1);
        for (int act = 0; act <= 6; act++) {
            x.alterRow(0, ACT, act);
            due.is("40 ACT " + act + " of six SHIPS", x.judge(), 0);
        }
        for (int act : new int[] {7, -1, 8, Integer.MAX_VALUE, Integer.MIN_VALUE}) {
            x.alterRow(0, ACT, act);
            due.is("40 " + act + " is no ACT", x.judge(), 1);
        }
        LightHalves none = new LightHalves();
        none.prove(1);
        due.is("40 0 is one without SHIPS", none.judge(), 0);
        none.alterRow(0, ACT, 1);
        due.is("40 1 is not", none.judge(), 1);
    }

    private static void over() {
        for (int left = 0; left <= 4; left++) {
            LightHalves x = new LightHalves();
            x.ends(16);
            Due.watches(x, 12);
            x.prove(4);
            x.ends(12 + left);
            due.is("40 with " + left + " left of four", x.judge(), left == 4 ? 0 : left + 1);
        }
        LightHalves none = new LightHalves();
        none.ends(1);
        none.watch();
        due.is("40 OVER, no ROWS", none.judge(), 0);
    }

    private static void asTheyAreThen() {
        int[] worth = {12, 13, 14, 15}, home = {1, 3, 7, 15};
        for (int k = 0; k < 4; k++) {
            due.is("40 WORTH", judged(k, WORTH, worth[k]), 0);
            due.is("40 1 more WORTH", judged(k, WORTH, worth[k] + 1), k + 1);
            due.is("40 1 less WORTH", judged(k, WORTH, worth[k] - 1), k + 1);
            due.is("40 HOME", judged(k, HOME, home[k]), 0);
            due.is("40 one more HOME", judged(k, HOME, home[k] | 32), k + 1);
            due.is("40 one less HOME", judged(k, HOME, home[k] & ~1), k + 1);
            due.is("40 another that enters", judged(k, ACT, 4), k == 3 ? 0 : k + 1);
        }
        LightHalves x = Due.one(4, 20, 5, 0);
        x.prove(2);
        x.alterRow(1, ACT, 1);
        due.is("40 an ACT that does as much", x.judge(), 0);
    }

    private static void fromNow() {
        LightHalves x = fourBrigs();
        x.prove(2);
        due.is("40 now", x.judge(), 0);
        x.watch();
        due.is("40 a WATCH later", x.judge(), 1);
        x.anew();
        due.is("40 nearer, but as much", x.judge(), 0);
        x.change(1, 2, 6);
        due.is("40 one pays more", x.judge(), 2);
        x.change(1, 2, 5);
        x.change(3, 4, 1);
        due.is("40 one more HOME", x.judge(), 1);
    }

    private static void firstThatIsnt() {
        due.is("40 the first", judged(0, WORTH, 0), 1);
        due.is("40 the last", judged(3, HOME, 0), 4);
        LightHalves x = fourBrigs();
        due.is("40 no ROWS", x.judge(), 0);
        x.prove(4);
        due.is("40 all", x.judge(), 0);
        x.alterRow(3, ACT, -1);
        due.is("40 the fourth", x.judge(), 4);
        x.alterRow(1, HOME, 0);
        due.is("40 the second, the fourth too", x.judge(), 2);
        x.alterRow(1, HOME, 3);
        x.alterRow(3, ACT, 4);
        due.is("40 all again", x.judge(), 0);
    }
}
