/** Promises 37 to 40: rows, and who reads them. */
public final class RowsTest {
    private static final Due due = new Due("RowsTest");

    public static void main(String[] args) {
        due.says("Of ROW k: what = 0 ACT, 1 WORTH, 2 those HOME. -9: there is none such, another what.",
            RowsTest::prove);
        due.says("It becomes v: what it was. -9 likewise.", RowsTest::alter);
        due.says("THE READER takes ROWS as such: 0 all is right; else the first ROW that isn't, and 1 more.",
            RowsTest::judge);
        due.says("THE READER takes ROWS as a PLAN, from how it is now", RowsTest::judgeLater);
        due.end();
    }

    private static void prove() {
        LightHalves x = Due.twoBrigs();
        due.is("40 no ROWS", x.judge(), 0);
        due.is("38 no ROWS", x.row(0, 0), -9);
        due.is("37 prove", x.prove(2), 2);
        int[][] want = {{1, 12, 1}, {2, 13, 3}};
        for (int k = 0; k < 2; k++) {
            for (int what = 0; what < 3; what++) {
                due.is("38 row(" + k + ", " + what + ")", x.row(k, what), want[k][what]);
            }
        }
        int[][] wrong = {{-1, 0}, {2, 0}, {0, -1}, {0, 3}};
        for (int[] w : wrong) {
            due.is("38 row", x.row(w[0], w[1]), -9);
            due.is("39 alterRow", x.alterRow(w[0], w[1], 5), -9);
        }
        due.is("37 prove", x.prove(5), LightHalves.BAD);
        due.is("37 prove", x.prove(-1), LightHalves.BAD);
        due.is("37 a refusal leaves ROWS", x.many(4), 2);
        due.is("37 prove", x.prove(4), 4);
        due.is("37 changes nothing else", x.state(0) + x.state(2) + x.state(4), 0);
        due.is("37 prove", x.prove(0), 0);
        due.is("37 many", x.many(4), 0);
        x.ends(3);
        due.is("37 fewer", x.prove(4), 3);
        x.ends(1);
        x.watch();
        due.is("37 over", x.prove(4), 0);
    }

    private static void alter() {
        LightHalves x = Due.twoBrigs();
        x.prove(2);
        due.is("39 alterRow", x.alterRow(1, 1, Integer.MIN_VALUE), 13);
        due.is("39 alterRow", x.row(1, 1), Integer.MIN_VALUE);
        due.is("39 alterRow", x.alterRow(1, 1, 13), Integer.MIN_VALUE);
        due.is("40 judge", x.judge(), 0);
    }

    private static void judgeAltered(int k, int what, int v, int want) {
        LightHalves x = Due.twoBrigs();
        x.prove(3);
        x.alterRow(k, what, v);
        due.is("40 judge behind alterRow(" + k + ", " + what + ", " + v + ")", x.judge(), want);
        due.is("40 changes nothing", x.state(0) + x.state(2) + x.state(4), 0);
    }

    private static void judge() {
        judgeAltered(0, 0, 2, 1);
        judgeAltered(0, 0, 3, 1);
        judgeAltered(0, 0, -1, 1);
        judgeAltered(0, 1, 11, 1);
        judgeAltered(0, 2, 3, 1);
        judgeAltered(1, 2, 2, 2);
        judgeAltered(2, 1, 3, 3);
        judgeAltered(2, 0, 2, 0);
    }

    private static void judgeLater() {
        LightHalves x = Due.twoBrigs();
        x.prove(2);
        x.ends(1);
        due.is("40 over ahead of the second", x.judge(), 2);
        x.ends(12);
        x.watch();
        due.is("40 from how it is now", x.judge(), 1);
        x.prove(2);
        due.is("40 judge", x.judge(), 0);
        x.change(1, 2, 6);
        due.is("40 judge", x.judge(), 1);
    }
}
