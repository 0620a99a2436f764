/** Promises 12 and 13: THE TAPE and THE RULES. */
public final class RulesTest {
    private static final Due due = new Due("RulesTest");

    public static void main(String[] args) {
        due.says("n bytes (1 to 8) come to THE TAPE, the lowest of eight first: how many it has. BAD; FULL: more than"
            + " 200.", RulesTest::feed);
        due.says("TEXT: { KIND DO ; | KIND if COND DO ; }, 8 RULES at most.", RulesTest::faults);
        due.says("ONE: { not } ( VALUE SIGN VALUE | \"(\" COND \")\" )", RulesTest::conditions);
        due.says("VALUE: N | watch | off | trim | flash | number", RulesTest::facts);
        due.says("KINDS: 0 ship; 1 tender, 2 coaster, 4 brig (under ship); 3 collier (under coaster); 5 captain (under"
            + " brig).", RulesTest::kinds);
        due.says("THE TAPE tells THE RULES (in place of all): how many; -100 less its FAULT.", RulesTest::replaced);
        due.end();
    }

    private static void feed() {
        LightHalves x = new LightHalves();
        due.is("12 feed", x.feed(0, 0), LightHalves.BAD);
        due.is("12 feed", x.feed(0, 9), LightHalves.BAD);
        due.is("12 feed", x.feed(0, -1), LightHalves.BAD);
        for (int i = 1; i <= 24; i++) {
            due.is("12 feed", x.feed(0x2020202020202020L, 8), 8 * i);
        }
        due.is("12 feed", x.feed(0x2020202020202020L, 7), 199);
        due.is("12 full", x.feed(0, 2), LightHalves.FULL);
        due.is("12 BAD ahead of FULL", x.feed(0, 9), LightHalves.BAD);
        due.is("12 many", x.many(5), 199);
        due.is("12 feed", x.feed(32, 1), 200);
        due.is("12 full", x.feed(32, 1), LightHalves.FULL);
        due.is("12 blanks alone", x.rules(), 0);
        due.is("13 used up", x.many(5), 0);
        x.feed(0x7069687370696873L, 4);
        x.feed(0x3b6c69616820L, 6);
        due.is("12 the lowest first, n of them", x.rules(), 1);
        x.feed(-1L, 8);
        due.is("12 bytes above 127", x.rules(), -100);
    }

    private static void fault(String text, int want) {
        LightHalves x = new LightHalves();
        due.is("13 " + text, Due.rules(x, text), want);
        due.is("13 tape behind " + text, x.many(5), 0);
        due.is("13 many behind " + text, x.many(1), Math.max(0, want));
    }

    private static void faults() {
        String eight = "ship hail;ship hail;ship hail;ship hail;ship hail;ship hail;ship hail;ship hail;";
        fault("", 0);
        fault("ship enter;", 1);
        fault("  ship   enter ;  ", 1);
        fault("tender stand;coaster hail;collier enter;brig stand;captain hail;", 5);
        fault("ship enter", -110);
        fault("ship enter  ", -112);
        fault("ship", -104);
        fault("shi", -100);
        fault("ships enter;", -100);
        fault("shipenter;", -100);
        fault("enter;", -100);
        fault(";", -100);
        fault("5", -100);
        fault("Ship enter;", -100);
        fault("ship\tenter;", -104);
        fault("ship fly;", -105);
        fault("ship 5;", -105);
        fault("ship tender;", -105);
        fault("ship enter;;", -111);
        fault("ship enter; x", -112);
        fault("ship enter hail;", -111);
        fault("ship if off<5 hail;", 1);
        fault("ship if off<5hail;", 1);
        fault("ship if off < 5 hail ;", 1);
        fault("ship if5<off hail;", 1);
        fault("ship if hail;", -108);
        fault("ship if 12345<off hail;", -108);
        fault("ship if off<00000 hail;", -112);
        fault("ship if 9999<off hail;", 1);
        fault("ship if 0000=0 hail;", 1);
        fault("ship if 1 2<off hail;", -110);
        fault("ship if ship<5 hail;", -108);
        fault("ship if off hail;", -112);
        fault("ship if off<<5 hail;", -112);
        fault("ship if off<=5 hail;", -112);
        fault("ship if off< hail;", -113);
        fault("ship if off<5<6 hail;", -113);
        fault("ship if off<5 hail", -118);
        fault("ship if off<5;", -113);
        fault("ship if not not not off<5 hail;", 1);
        fault("ship if not hail;", -112);
        fault("ship if off<5 not hail;", -114);
        fault("ship if off<5 and hail;", -118);
        fault("ship if off<5 or or off<6 hail;", -117);
        fault("ship if off<5 if hail;", -114);
        fault("ship if off<5) hail;", -113);
        fault("ship if (off<5 hail;", -115);
        fault("ship if (off<5", -114);
        fault("ship if (off) hail;", -112);
        fault("ship if () hail;", -109);
        fault("ship if (((off<5))) hail;", 1);
        fault("ship if ((((off<5)))) hail;", -111);
        fault("ship if not (not (not (off<5 or not (off<6 hail;", -136);
        fault("ship if (((1<2))) and (((1<2))) hail;", 1);
        fault("ship if ((1<2) or ((1<2))) hail;", 1);
        fault("ship if (1<2)(1<2) hail;", -113);
        fault(eight, 8);
        fault(eight + " ", 8);
        fault(eight + " ship hail;", -181);
        fault(eight + "5", -180);
    }

    private static void holds(String cond, boolean want) {
        LightHalves x = Due.one(4, 7, 3, 0);
        due.is("13 tells " + cond, Due.rules(x, "ship if " + cond + " hail;"), 1);
        due.is("13 " + cond, x.shipOf(0, 9), want ? 2 : 0);
    }

    private static void conditions() {
        holds("1<2", true);
        holds("2<1", false);
        holds("1<1", false);
        holds("2>1", true);
        holds("1>1", false);
        holds("1>2", false);
        holds("7=7", true);
        holds("7=8", false);
        holds("0007=7", true);
        holds("not 1=1", false);
        holds("not not 1=1", true);
        holds("1=1 or 1=1 and 1=2", true);
        holds("1=2 and 1=2 or 1=1", true);
        holds("(1=1 or 1=1) and 1=2", false);
        holds("1=2 and (1=2 or 1=1)", false);
        holds("not 1=1 or 1=1", true);
        holds("not (1=1 or 1=1)", false);
        holds("not 1=2 and 1=2", false);
        holds("not (1=2 and 1=2)", true);
        holds("not not (1=2 or 1=1)", true);
        holds("1=1 and not (1=1 and not (1=1 and not (1=2)))", true);
        holds("1=2 or 1=2 and (1=1 or 1=2 and (1=1 or 1=2 and (1=1 or 1=1 and 1=1)))", false);
        holds("1=2 or 1=1 and (1=2 or 1=1 and (1=2 or 1=1 and (1=2 or 1=1 and 1=1)))", true);
        holds("1=1 and 1=1 and 1=2", false);
        holds("1=2 or 1=2 or 1=1", true);
    }

    private static void facts() {
        holds("watch=0", true);
        holds("off=7", true);
        holds("trim=3", true);
        holds("flash=1", true);
        holds("number=0", true);
        holds("off<7 or off>7", false);
        holds("trim<off and off>trim", true);
        LightHalves x = Due.one(1, 90, 2, 0);
        x.ship(1, 90, 2, 1);
        x.light(1, 12);
        x.watch();
        Due.rules(x, "ship if watch=1 and off=88 and trim=2 and flash=3 and number=1 stand;");
        due.is("13 facts of another", x.shipOf(0, 9), 0);
        due.is("13 facts of the next WATCH", x.shipOf(1, 9), 1);
    }

    private static void kinds() {
        String[] names = {"ship", "tender", "coaster", "collier", "brig", "captain"};
        String[] heedful = {"12345", "1", "23", "3", "45", "5"};
        for (int rule = 0; rule < 6; rule++) {
            for (int kind = 1; kind <= 5; kind++) {
                LightHalves x = Due.one(kind, 7, 3, 0);
                Due.rules(x, names[rule] + " stand;");
                int want = heedful[rule].indexOf((char) ('0' + kind)) >= 0 ? 1 : 0;
                due.is("13 " + names[rule] + " tells KIND " + kind, x.shipOf(0, 9), want);
            }
        }
    }

    private static void replaced() {
        LightHalves x = Due.one(5, 7, 3, 0);
        due.is("13 rules", Due.rules(x, "captain if off<5 stand; brig if off<9 hail; captain stand;"), 3);
        due.is("13 the first that holds", x.shipOf(0, 9), 2);
        due.is("13 fault", Due.rules(x, "captain stand; brig"), -119);
        due.is("13 a fault changes nothing", x.shipOf(0, 9), 2);
        due.is("13 many", x.many(1), 3);
        due.is("13 in place of all", Due.rules(x, "brig stand;"), 1);
        due.is("13 in place of all", x.shipOf(0, 9), 1);
        String six = "ship if 1=2 hail;ship if 1=2 hail;ship if 1=2 hail;ship if 1=2 hail;ship if 1=2 hail;ship if 1=2 hail;";
        due.is("13 eight", Due.rules(x, six + "ship if 1=2 hail; ship if 1=1 and off=7 stand;"), 8);
        due.is("13 the eighth", x.shipOf(0, 9), 1);
        due.is("13 eight", Due.rules(x, six + "ship if 1=1 and off=7 hail; ship stand;"), 8);
        due.is("13 the seventh", x.shipOf(0, 9), 2);
        due.is("13 none", x.rules(), 0);
        due.is("13 none", x.shipOf(0, 9), 0);
    }
}
