/** Counts the answers that are not as due; used by the tests beside it. */
final class Due {
    private final String test;
    private int wrong = 0;
    private int sentences = 0;

    Due(String test) {
        this.test = test;
    }

    void is(String call, int got, int want) {
        if (got != want) {
            isWrong(call + " answered " + got + ", due is " + want);
        }
    }

    void isWrong(String line) {
        wrong++;
        System.out.println(test + ": " + line);
    }

    /** Holds the class to a sentence of the document, told in the document's own words. */
    void says(String words, Runnable holds) {
        sentences++;
        if (!Document.says(words)) {
            isWrong("the document doesn't say: " + words);
        }
        int before = wrong;
        holds.run();
        if (wrong > before) {
            System.out.println(test + ": so this doesn't hold: " + words);
        }
    }

    /** Asks one thing of the numbers 0, 1, .. and wants these answers. */
    void trace(LightHalves x, String call, int... want) {
        is(call + ": many(6)", x.many(6), want.length);
        for (int i = 0; i < want.length; i++) {
            is(call + ": trace(" + i + ")", x.trace(i), want[i]);
        }
        is(call + ": trace behind the last", x.trace(want.length), LightHalves.NONE);
        is(call + ": trace(-1)", x.trace(-1), LightHalves.NONE);
    }

    void end() {
        String held = sentences == 0 ? "" : sentences + " sentences, ";
        System.out.println(test + ": " + held
            + (wrong == 0 ? "all answers are as due" : wrong + " answers are not as due"));
        if (wrong != 0) {
            System.exit(1);
        }
    }

    static void feed(LightHalves x, String text) {
        for (int i = 0; i < text.length(); i += 8) {
            int n = Math.min(8, text.length() - i);
            long eight = 0;
            for (int j = n - 1; j >= 0; j--) {
                eight = eight << 8 | text.charAt(i + j);
            }
            x.feed(eight, n);
        }
    }

    static int rules(LightHalves x, String text) {
        feed(x, text);
        return x.rules();
    }

    /** Puts acts on SHEET 3 as bytes. */
    static void acts(LightHalves x, int... acts) {
        x.sheet(3, 0, acts.length);
        for (int i = 0; i < acts.length; i++) {
            x.write(3, i, acts[i]);
        }
    }

    /** A WATCHE with this ACT: what it was WORTH. */
    static int pass(LightHalves x, int act) {
        acts(x, act);
        return x.goAll(3, 0, 1);
    }

    static void watches(LightHalves x, int n) {
        for (int i = 0; i < n; i++) {
            x.watch();
        }
    }

    /** Two brigs alike, 20 OFF, TRIM 5, in LANES 0 and 1: each PAYS 11 and NEARS 5 by the LIGHT at first. */
    static LightHalves twoBrigs() {
        LightHalves x = new LightHalves();
        x.ship(4, 20, 5, 0);
        x.ship(4, 20, 5, 1);
        return x;
    }

    static LightHalves one(int kind, int off, int trim, int lane) {
        LightHalves x = new LightHalves();
        x.ship(kind, off, trim, lane);
        return x;
    }
}
