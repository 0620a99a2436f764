/** The part "2 THE RULES" and promises 12 and 13: a test of its own for each sentence that names a boundary. */
public final class RulesEdgesTest {
    private static final int BAD = LightHalves.BAD, FULL = LightHalves.FULL;
    private static final int ENTER = 0, STAND = 1, HAIL = 2;
    private static final String EIGHT = "ship hail;".repeat(8);
    private static final Due due = new Due("RulesEdgesTest");

    public static void main(String[] args) {
        due.says("THE RULES are a TEXT. THE TAPE takes bytes, 200 at most", RulesEdgesTest::twoHundredBytes);
        due.says("rules() uses it up", RulesEdgesTest::usedUp);
        due.says("such a call changes nothing (but that THE TAPE is used up by rules())", RulesEdgesTest::noneOfTheLast);
        due.says("THE TAPE is used up", RulesEdgesTest::nothingStaysOpen);
        due.says("(in place of all)", RulesEdgesTest::oneBehindTheOther);
        due.says("n bytes (1 to 8) come to THE TAPE, the lowest of eight first: how many it has.", RulesEdgesTest::oneToEight);
        due.says("FULL: more than 200.", RulesEdgesTest::full);
        due.says("THE TAPE tells THE RULES (in place of all): how many; -100 less its FAULT.", RulesEdgesTest::inPlaceOfAll);
        due.says("8 RULES at most", RulesEdgesTest::eightRules);
        due.says("KIND: ship | tender | coaster | collier | brig | captain.", RulesEdgesTest::kindWords);
        due.says("DO: enter | stand | hail.", RulesEdgesTest::doWords);
        due.says("COND: ALL { or ALL } ALL: ONE { and ONE }", RulesEdgesTest::andAheadOfOr);
        due.says("ONE: { not }", RulesEdgesTest::noneOrMoreNots);
        due.says("SIGN: < | = | >", RulesEdgesTest::signs);
        due.says("N are NUMBERS 0 to 9999.", RulesEdgesTest::numbers);
        due.says("FACTS: the WATCH that goes by; how far OFF she is, her TRIM, the FLASH of that WATCH; her number.",
            RulesEdgesTest::facts);
        due.says("NAMES are rows of letters a to z, NUMBERS rows of digits (1 to 4), both as long as they go",
            RulesEdgesTest::asLongAsTheyGo);
        due.says("blanks (32) part them, and stand elsewhere as one likes", RulesEdgesTest::blanks);
        due.says("At most 3 \"(\" are open within one another.", RulesEdgesTest::threeOpen);
        due.says("FAULT: the place (from 0) of the first byte of the first NAME, NUMBER or other byte that can't stand there",
            RulesEdgesTest::firstByteOfTheFirst);
        due.says("(a NUMBER of more digits, the fourth \"(\", the first NAME of the ninth RULE, too)",
            RulesEdgesTest::tooMany);
        due.says("or the end (how many bytes there are), if more must come", RulesEdgesTest::endTooSoon);
        due.says("the first of THE RULES whose KIND is hers or above it, and whose condition holds, tells it",
            RulesEdgesTest::firstThatHolds);
        due.says("enter (if no RULE tells), stand, or hail", RulesEdgesTest::noRuleTells);
        due.end();
    }

    private static void tells(String text, int answer) {
        LightHalves x = new LightHalves();
        due.is("13 [" + text + "]", Due.rules(x, text), answer);
        due.is("13 THE RULES of [" + text + "]", x.many(1), Math.max(0, answer));
        due.is("13 THE TAPE behind [" + text + "]", x.many(5), 0);
    }

    private static void fault(String ahead, String behind) {
        tells(ahead + behind, -100 - ahead.length());
    }

    /** The WILL of a brig 7 OFF, TRIM 3, number 0, by LIGHT 6 in WATCH 0. */
    private static int will(String text) {
        LightHalves x = Due.one(4, 7, 3, 0);
        due.is("13 [" + text + "] is no RULE", Math.min(0, Due.rules(x, text)), 0);
        return x.shipOf(0, 9);
    }

    private static void holds(String cond, boolean so) {
        due.is("13 if " + cond, will("ship if " + cond + " hail;"), so ? HAIL : ENTER);
    }

    private static void twoHundredBytes() {
        LightHalves x = Due.one(4, 7, 3, 0);
        String text = "brig hail" + " ".repeat(190) + ";";
        for (int i = 0; i < 200; i++) {
            due.is("12 byte " + (i + 1), x.feed(text.charAt(i), 1), i + 1);
        }
        due.is("12 byte 201", x.feed(' ', 1), FULL);
        due.is("12 how many", x.many(5), 200);
        due.is("13 all 200 are read", x.rules(), 1);
        due.is("13 as they tell", x.shipOf(0, 9), HAIL);
        LightHalves y = new LightHalves();
        Due.feed(y, "brig hail" + " ".repeat(191));
        due.is("13 the end of 200", y.rules(), -300);
        Due.feed(y, " ".repeat(199) + "x");
        due.is("13 byte 199 from 0", y.rules(), -299);
        tells(" ".repeat(197) + "shi", -297);
        tells(" ".repeat(196) + "ship", -300);
        tells(" ".repeat(188) + "ship if off=", -300);
        tells(" ".repeat(185) + "ship if off=123", -300);
        tells(" ".repeat(183) + "ship if off=12345", -295);
        tells(" ".repeat(190) + "ship hail;", 1);
    }

    /** Bytes of a TEXT ahead stand no longer behind the end of the next. */
    private static void noneOfTheLast() {
        String[] ahead = {"ship if off=1234567890 hail;", "ship hailaboutyou;", "ship if off=12)))))))))))"};
        for (String text : ahead) {
            LightHalves x = new LightHalves();
            Due.rules(x, text);
            due.is("13 a NUMBER ends with THE TAPE", Due.rules(x, "ship if off=12"), -114);
            Due.rules(x, text);
            due.is("13 a NUMBER of four digits", Due.rules(x, "ship if off=1234"), -116);
            Due.rules(x, text);
            due.is("13 a NAME ends with THE TAPE", Due.rules(x, "ship hail"), -109);
            Due.rules(x, text);
            due.is("13 nothing", Due.rules(x, ""), 0);
        }
    }

    /** What stood open as a TEXT was in fault counts no more. */
    private static void nothingStaysOpen() {
        String[] ahead = {"ship if not", "ship if not not not (", "ship if 1=2 and", "ship if 1=1 or", "ship if (((1=1",
            "ship if 1=2 and (1=2 or not", "ship if ((((", "ship if off <", "ship hail;".repeat(9)};
        for (String text : ahead) {
            LightHalves x = Due.one(4, 7, 3, 0);
            due.is("13 in fault: " + text, Due.rules(x, text) < 0 ? 1 : 0, 1);
            due.is("13 behind " + text, Due.rules(x, "ship if 1=1 hail;"), 1);
            due.is("13 as it tells behind " + text, x.shipOf(0, 9), HAIL);
            due.is("13 in fault: " + text, Due.rules(x, text) < 0 ? 1 : 0, 1);
            due.is("13 behind " + text, Due.rules(x, "ship if (((1=2))) hail;"), 1);
            due.is("13 as it tells behind " + text, x.shipOf(0, 9), ENTER);
        }
    }

    private static void oneBehindTheOther() {
        LightHalves x = Due.one(4, 7, 3, 0);
        for (int i = 0; i < 14; i++) {
            String so = i % 2 == 0 ? "1=1" : "2=1";
            String text = "ship if 1=2" + " or 1=2".repeat(24) + " or " + so + " hail;";
            due.is("13 TEXT " + i, Due.rules(x, text), 1);
            due.is("13 as TEXT " + i + " tells", x.shipOf(0, 9), i % 2 == 0 ? HAIL : ENTER);
        }
    }

    private static void usedUp() {
        LightHalves x = new LightHalves();
        Due.feed(x, "brig hail;");
        due.is("13 rules", x.rules(), 1);
        due.is("50 none left", x.many(5), 0);
        due.is("13 nothing is told now", x.rules(), 0);
        Due.feed(x, "brig hail");
        due.is("13 in fault", x.rules(), -109);
        due.is("50 none left", x.many(5), 0);
        due.is("12 so it has but what comes", x.feed(';', 1), 1);
        due.is("13 of which no RULE is", x.rules(), -100);
        Due.feed(x, " ".repeat(200));
        due.is("12 FULL", x.feed(' ', 1), FULL);
        x.rules();
        due.is("12 200 more may come", x.feed(' ', 8), 8);
    }

    private static void oneToEight() {
        LightHalves x = Due.one(4, 7, 3, 0);
        due.is("12 none", x.feed(0, 0), BAD);
        due.is("12 nine", x.feed(0, 9), BAD);
        due.is("12 below", x.feed(0, -1), BAD);
        due.is("12 none came", x.many(5), 0);
        long brigHail = 0x6c69616867697262L;
        due.is("12 four of eight", x.feed(brigHail, 4), 4);
        due.is("12 one", x.feed(' ', 1), 5);
        due.is("12 four, and more above them", x.feed(0x7878787800000000L | brigHail >>> 32, 4), 9);
        due.is("12 eight", x.feed(0x202020202020203bL, 8), 17);
        due.is("13 brig hail;", x.rules(), 1);
        due.is("13 brig hail;", x.shipOf(0, 9), HAIL);
        due.is("12 eight, the topmost bit too", x.feed(0x8020202020202020L, 8), 8);
        due.is("13 the eighth is no blank", x.rules(), -107);
    }

    private static void full() {
        for (int have = 192; have <= 200; have++) {
            for (int n = 1; n <= 8; n++) {
                LightHalves x = new LightHalves();
                Due.feed(x, " ".repeat(have));
                boolean fits = have + n <= 200;
                due.is("12 " + n + " more than " + have, x.feed(-1L, n), fits ? have + n : FULL);
                due.is("12 then there are", x.many(5), fits ? have + n : have);
                due.is("13 those refused are not there", x.rules(), fits ? -100 - have : 0);
            }
        }
    }

    private static void inPlaceOfAll() {
        LightHalves x = Due.one(4, 7, 3, 0);
        due.is("13 three", Due.rules(x, "tender hail;coaster hail;brig stand;"), 3);
        due.is("13 one", Due.rules(x, "brig hail;"), 1);
        due.is("50 one", x.many(1), 1);
        due.is("13 as the one tells", x.shipOf(0, 9), HAIL);
        due.is("13 in fault", Due.rules(x, "brig stand;;"), -111);
        due.is("50 as they were", x.many(1), 1);
        due.is("13 as they were", x.shipOf(0, 9), HAIL);
        due.is("13 in fault with the first byte", Due.rules(x, ";"), -100);
        due.is("13 none", Due.rules(x, ""), 0);
        due.is("50 none", x.many(1), 0);
        due.is("13 none tells", x.shipOf(0, 9), ENTER);
    }

    private static void eightRules() {
        tells(EIGHT.substring(10), 7);
        tells(EIGHT, 8);
        tells(EIGHT + "   ", 8);
        fault(EIGHT, "ship hail;");
        fault(EIGHT + "  ", "ship");
        fault(EIGHT, "s");
        String seven = "tender hail;".repeat(7);
        due.is("13 the eighth tells, too", will(seven + "brig stand;"), STAND);
        String brief = "ship if 1=2 hail;".repeat(7);
        due.is("13 with conditions", will(brief + "ship if off=7 hail;"), HAIL);
        due.is("13 with conditions", will(brief + "ship if off=8 hail;"), ENTER);
    }

    private static void kindWords() {
        String[] words = {"ship", "tender", "coaster", "collier", "brig", "captain"};
        for (String word : words) {
            tells(word + " hail;", 1);
            fault("", word + "s hail;");
            fault("", word.substring(1) + " hail;");
            fault("", word.substring(0, word.length() - 1) + " hail;");
            fault(word + " ", word + ";");
            fault("ship if ", word + "=1 hail;");
        }
        for (String other : new String[] {"if", "hail", "enter", "off", "not", "and", "x", "0", "(", "=", ";"}) {
            fault("", other + " hail;");
        }
    }

    private static void doWords() {
        String[] words = {"enter", "stand", "hail"};
        for (int i = 0; i < 3; i++) {
            due.is("13 " + words[i], will("ship " + words[i] + ";"), i);
            due.is("13 " + words[i], will("ship if 1=1 " + words[i] + ";"), i);
            fault("ship ", words[i] + "s;");
            fault("ship ", words[i].substring(1) + ";");
            fault("ship if 1=1 ", words[i].substring(0, words[i].length() - 1) + ";");
            fault("ship " + words[i] + " ", words[i] + ";");
        }
    }

    private static void andAheadOfOr() {
        for (int bits = 0; bits < 8; bits++) {
            boolean a = (bits & 1) == 1;
            boolean b = (bits & 2) == 2;
            boolean c = (bits & 4) == 4;
            String[] one = {a ? "1=1" : "1=2", b ? "1=1" : "1=2", c ? "1=1" : "1=2"};
            holds(one[0] + " or " + one[1] + " and " + one[2], a || b && c);
            holds(one[0] + " and " + one[1] + " or " + one[2], a && b || c);
            holds("(" + one[0] + " or " + one[1] + ") and " + one[2], (a || b) && c);
            holds(one[0] + " and (" + one[1] + " or " + one[2] + ")", a && (b || c));
            holds(one[0] + " and " + one[1] + " and " + one[2], a && b && c);
            holds(one[0] + " or " + one[1] + " or " + one[2], a || b || c);
            holds("not " + one[0] + " and " + one[1] + " or not " + one[2], !a && b || !c);
            holds("not (" + one[0] + " and not (" + one[1] + " or " + one[2] + "))", !(a && !(b || c)));
        }
        fault("ship if 1=1 or ", "or 1=1 hail;");
        fault("ship if ", "and 1=1 hail;");
    }

    private static void noneOrMoreNots() {
        StringBuilder nots = new StringBuilder();
        for (int n = 0; n <= 20; n++) {
            holds(nots + "1=1", n % 2 == 0);
            holds(nots + "(1=1)", n % 2 == 0);
            nots.append("not ");
        }
        tells("ship if " + "not ".repeat(45) + "1=1 hail;", 1);
        fault("ship if not ", "and 1=1 hail;");
        fault("ship if 1=1 ", "not 1=1 hail;");
    }

    private static void signs() {
        int[] others = {6, 7, 8};
        for (int other : others) {
            holds("off<" + other, 7 < other);
            holds("off=" + other, 7 == other);
            holds("off>" + other, 7 > other);
            holds(other + "<off", other < 7);
            holds(other + "=off", other == 7);
            holds(other + ">off", other > 7);
        }
        for (String sign : new String[] {"!", "+", "-", ")", "(", ";", "and", "5", "hail"}) {
            fault("ship if off ", sign + " 7 hail;");
        }
        fault("ship if off<", "=7 hail;");
        fault("ship if off=", "=7 hail;");
        fault("ship if off<", ">7 hail;");
    }

    private static void numbers() {
        holds("0=0", true);
        holds("0000=0", true);
        holds("0007=off", true);
        holds("9999=9999", true);
        holds("9999>9998", true);
        holds("9999<9999", false);
        holds("99<100", true);
        holds("1000>999", true);
        holds("off<9999", true);
        holds("off>0", true);
        fault("ship if off<", "10000 hail;");
        fault("ship if ", "00000=0 hail;");
        fault("ship if off<", "99999999999999999999 hail;");
        fault("ship if off<", "-1 hail;");
    }

    private static void facts() {
        LightHalves x = new LightHalves();
        x.ship(4, 0, 0, 0);
        for (int k = 1; k < 6; k++) {
            x.ship(4, 99, 9, k);
        }
        x.ends(16);
        x.light(0, 3);
        x.light(1, 12);
        Due.rules(x, "ship if watch=0 and off=0 and trim=0 and flash=0 and number=0 stand;"
            + "ship if watch=0 and off=99 and trim=9 and flash=0 and number=5 hail;"
            + "ship if watch=16 and flash=0 stand;");
        due.is("13 all the least", x.shipOf(0, 9), STAND);
        due.is("13 all the most", x.shipOf(5, 9), HAIL);
        due.is("13 another number", x.shipOf(4, 9), ENTER);
        Due.watches(x, 16);
        due.is("13 WATCH 16", x.shipOf(4, 9), STAND);
        LightHalves y = Due.one(4, 99, 9, 0);
        Due.rules(y, "ship if flash=3 hail; ship if off<99 stand;");
        y.light(1, 12);
        due.is("13 FLASH 1", y.shipOf(0, 9), ENTER);
        y.watch();
        due.is("13 FLASH 3", y.shipOf(0, 9), HAIL);
        y.watch();
        due.is("13 less OFF", y.shipOf(0, 9), STAND);
        for (String fact : new String[] {"watch", "off", "trim", "flash", "number"}) {
            tells("ship if " + fact + "=" + fact + " hail;", 1);
            fault("ship if ", fact + "s=1 hail;");
            fault("ship if ", fact.substring(1) + "=1 hail;");
            fault("ship if 1=1 ", fact + ";");
        }
        fault("ship if ", "dark=1 hail;");
    }

    private static void asLongAsTheyGo() {
        fault("ship if 1=", "12345 hail;");
        tells("ship if 1=1234hail;", 1);
        tells("ship if1=1hail;", 1);
        fault("", "shiphail;");
        fault("ship if off=off ", "5 hail;");
        fault("ship hail", "5;");
        fault("ship ", "ifoff=1 hail;");
        fault("ship if off=1 ", "andoff=1 hail;");
        fault("ship if off", "5=1 hail;");
        fault("ship if 1", "off=1 hail;");
        fault("ship if ", "offoff=1 hail;");
        tells("ship if(off=1)hail;", 1);
        tells("ship if off=1and off=1hail;", 1);
        fault("ship ", "ha");
        fault("ship ", "haiL;");
        fault("ship hail", "L;");
        for (String letter : new String[] {"a", "z"}) {
            fault("", letter + "ship hail;");
            fault("ship ", "hail" + letter + ";");
            fault("ship ", "ha" + letter + "il;");
        }
        for (String other : new String[] {"`", "{", "A", "Z", "@", "["}) {
            fault("ship hail", other + ";");
            fault("", other + "ship hail;");
        }
        for (String digit : new String[] {"0", "9"}) {
            tells("ship if off=" + digit + " hail;", 1);
            tells("ship if off=111" + digit + " hail;", 1);
            fault("ship if off=", "1111" + digit + " hail;");
        }
        for (String other : new String[] {"/", ":"}) {
            fault("ship if off=1", other + " hail;");
            fault("ship if off=", other + "1 hail;");
        }
    }

    private static void blanks() {
        tells("   ship   if   (   off   <   5   )   hail   ;   ", 1);
        tells("ship if(off<5)hail;ship if not(off<5)hail;", 2);
        tells("ship hail;ship hail;", 2);
        tells(" ", 0);
        tells(" ".repeat(200), 0);
        fault("", "sh ip hail;");
        fault("ship if 1=1", "=1 hail;");
        fault("ship if 1=1 ", "2 hail;");
        for (int b = 0; b < 256; b++) {
            if (b != ' ') {
                fault("", String.valueOf((char) b));
                fault("ship ", (char) b + " hail;");
            }
        }
        for (int b : new int[] {0, 9, 10, 13, 31, 33, 127, 128, 160, 255}) {
            fault("ship hail", (char) b + ";");
            fault("ship hail;", String.valueOf((char) b));
        }
    }

    private static void threeOpen() {
        tells("ship if (off<5) hail;", 1);
        tells("ship if ((off<5)) hail;", 1);
        tells("ship if (((off<5))) hail;", 1);
        fault("ship if (((", "(off<5)))) hail;");
        tells("ship if (((1=1))) or (((1=1))) hail; ship if (((1=1))) hail;", 2);
        tells("ship if ((1=1) and ((1=1) or (1=1)) and (1=1)) hail;", 1);
        fault("ship if ((1=1) and ((1=1) or (", "(1=1))) and (1=1)) hail;");
        fault("ship if not (not (not (not ", "(1=1)))) hail;");
        fault("ship if (((1=1)))", ") hail;");
        LightHalves x = new LightHalves();
        due.is("13 three are open when it ends", Due.rules(x, "ship if (((1=1"), -114);
        due.is("13 none is open in the next TEXT", Due.rules(x, "ship if (((1=1))) hail;"), 1);
        holds("(1=1 and (1=1 and (1=1 and 1=1 or 1=2) or 1=2) or 1=2)", true);
        holds("1=2 or (1=2 or (1=2 or (1=2 or 1=1 and 1=2)))", false);
        holds("1=2 or 1=1 and (1=2 or 1=1 and (1=2 or 1=1 and (1=2 or 1=1 and not 1=2)))", true);
    }

    private static void firstByteOfTheFirst() {
        fault("", "x");
        fault("   ", "captains hail;");
        fault("brig ", "brig hail;");
        fault("brig hail ", "hail;");
        fault("brig hail; ", "xyz; brig fly;");
        fault("brig if off ", "1234567 < 5 hail;");
        fault("brig if off < ", "hail;");
        fault("brig if off < 5 ", "5 hail;");
        fault("brig if off < 5 ", "; hail;");
        fault("brig if (off < 5 ", "hail;");
        fault("brig if ", ") hail;");
        fault("brig if (", ") hail;");
        fault("brig if off < ", "(off) hail;");
    }

    private static void tooMany() {
        fault("ship if off = 1 or off = ", "00001 hail;");
        fault("ship if (((", "(");
        fault("ship if (((", "(((((((");
        fault(EIGHT + " ", "brig fly;");
        fault(EIGHT + " ", "brig");
        fault(EIGHT, "hail");
        fault(EIGHT, "7");
        fault(EIGHT, ";");
    }

    private static void endTooSoon() {
        String whole = "ship if not ( off < 5 and trim > 1 ) or ( flash = 0 ) hail ;";
        for (int length = 1; length < whole.length(); length++) {
            boolean partsNoName = whole.charAt(length) == ' ' || whole.charAt(length - 1) == ' ';
            if (partsNoName) {
                fault(whole.substring(0, length), "");
                fault(whole.substring(0, length) + "   ", "");
            }
        }
        tells(whole, 1);
        fault("ship hail; brig", "");
        fault("ship hail; brig ", "");
        fault("ship hail; brig hail", "");
        fault(EIGHT.substring(0, 79), "");
        fault("ship if (((1=1))", "");
        tells("", 0);
    }

    private static void firstThatHolds() {
        due.is("13 the first", will("brig stand; brig hail;"), STAND);
        due.is("13 the second", will("brig if off=8 stand; brig hail;"), HAIL);
        due.is("13 neither", will("brig if off=8 stand; brig if off=6 hail;"), ENTER);
        due.is("13 above hers", will("ship stand; brig hail;"), STAND);
        due.is("13 hers", will("brig hail; ship stand;"), HAIL);
        due.is("13 under hers", will("captain hail; ship stand;"), STAND);
        due.is("13 another", will("coaster hail; tender hail; collier hail; brig stand;"), STAND);
        due.is("13 that enters", will("brig enter; ship hail;"), ENTER);
        due.is("13 the last of eight", will("captain hail;".repeat(7) + "brig stand;"), STAND);
    }

    private static void noRuleTells() {
        due.is("13 no RULES", will(""), ENTER);
        due.is("13 of other KINDS", will("captain hail; tender stand; coaster hail; collier stand;"), ENTER);
        due.is("13 none holds", will("ship if 1=2 hail;"), ENTER);
        LightHalves x = Due.one(4, 7, 3, 0);
        due.is("14 so she enters", x.watch(), 10);
    }
}
