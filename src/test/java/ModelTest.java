import java.lang.reflect.Method;
import java.lang.reflect.Modifier;
import java.util.ArrayList;
import java.util.Arrays;
import java.util.Comparator;
import java.util.List;
import java.util.Random;

/** Long runs of calls by fixed seeds, and each call with the farthest numbers, answered by LightHalves and the Model alike. */
public final class ModelTest {
    /** More calls than 512 are not promised; the longest piece of a run, a TEXT, takes fewer than 40. */
    private static final int RUNS = 800, CALLS = 512, PIECE = 40;
    private static final int[] FARTHEST = {Integer.MIN_VALUE, -16, -1, 0, 1, 5, 6, 16, 100, Integer.MAX_VALUE};
    private static final String[] DEAR = {"best", "ith", "ways", "log", "bars", "game", "play", "prove", "lone", "liar"};

    private final Random random;
    private final LightHalves real = new LightHalves();
    private final Model model = new Model();
    private final List<String> told = new ArrayList<>();
    private int called = 0;

    private ModelTest(long seed) {
        random = new Random(seed);
    }

    public static void main(String[] args) throws Exception {
        Method[] calls = Arrays.stream(LightHalves.class.getDeclaredMethods())
            .filter(m -> Modifier.isPublic(m.getModifiers()))
            .sorted(Comparator.comparing(Method::getName))
            .toArray(Method[]::new);
        int runs = args.length > 0 ? Integer.parseInt(args[0]) : RUNS;
        for (int seed = 0; seed < runs; seed++) {
            ModelTest test = new ModelTest(seed);
            if (!test.run(calls)) test.fail("seed " + seed);
        }
        for (Method call : calls) farthest(call);
        System.out.println("ModelTest: " + runs + " runs are as the model's");
    }

    private void fail(String run) {
        System.out.println(run + ", the last calls:");
        int from = Math.max(0, told.size() - 60);
        for (String line : told.subList(from, told.size())) System.out.println("  " + line);
        System.exit(1);
    }

    /** A call with all there is of far and near numbers, each time on a rock of three SHIPS. */
    private static void farthest(Method call) throws Exception {
        int places = call.getParameterCount();
        int all = 1;
        for (int i = 0; i < places; i++) all *= FARTHEST.length;
        ModelTest test = null;
        for (int which = 0; which < all; which++) {
            if (test == null || test.called > CALLS - PIECE) {
                test = new ModelTest(which);
                if (!test.furnish()) test.fail("the rock ahead of " + call.getName());
            }
            Object[] args = new Object[places];
            for (int i = 0, rest = which; i < places; i++, rest /= FARTHEST.length) {
                int v = FARTHEST[rest % FARTHEST.length];
                args[i] = call.getParameterTypes()[i] == long.class ? (Object) (long) v : (Object) v;
            }
            if (!test.same(call, args) || !test.same("state", 2)) test.fail("the farthest of " + call.getName());
        }
    }

    private boolean furnish() throws Exception {
        for (int k = 0; k < 3; k++) {
            if (!same("ship", 5 - k, 20, 5, k)) return false;
        }
        for (int i = 0; i < 4; i++) {
            if (!same("sheet", i, i, 6) || !same("shelf", i, i % 2, i / 2)) return false;
        }
        return same("act", 0, 3, 7) && same("prove", 4) && same("report", 1, 0, 1, 50) && same("keep");
    }

    private boolean run(Method[] calls) throws Exception {
        int ships = random.nextInt(7);
        for (int i = 0; i < ships; i++) {
            if (!same("ship", 1 + random.nextInt(5), random.nextInt(60), random.nextInt(10), random.nextInt(6))) {
                return false;
            }
        }
        for (int i = 0; i < 8; i++) {
            if (!same("light", random.nextInt(16), random.nextInt(16))) return false;
        }
        while (called <= CALLS - PIECE) {
            int choice = random.nextInt(40);
            if (choice == 0) {
                if (!tell(new Texts(random).text())) return false;
                continue;
            }
            if (choice == 1) {
                if (!actOnShip()) return false;
                continue;
            }
            Method m = calls[random.nextInt(calls.length)];
            if (Arrays.asList(DEAR).contains(m.getName()) && random.nextInt(6) > 0) continue;
            Object[] args = new Object[m.getParameterCount()];
            for (int j = 0; j < args.length; j++) {
                args[j] = m.getParameterTypes()[j] == long.class ? (Object) random.nextLong() : (Object) number();
            }
            if (!same(m, args)) return false;
        }
        return true;
    }

    private int number() {
        switch (random.nextInt(12)) {
            case 0: return random.nextInt(110) - 5;
            case 1: return random.nextInt(20) - 2;
            case 2: return random.nextInt(9) == 0 ? (random.nextBoolean() ? Integer.MIN_VALUE : Integer.MAX_VALUE)
                : random.nextInt(30);
            case 3: return random.nextInt(64);
            case 4: return random.nextInt(300) == 0 ? random.nextInt() : random.nextInt(10);
            default: return random.nextInt(6);
        }
    }

    private boolean actOnShip() throws Exception {
        if (!same("shelf", 1, 0, random.nextInt(6)) || !same("act", 1, random.nextInt(4), random.nextInt())) return false;
        for (int i = 0; i < 12; i++) {
            if (!same("trace", i)) return false;
        }
        return same("many", 6);
    }

    private boolean tell(String text) throws Exception {
        if (!same("rules")) return false;
        for (int i = 0; i < text.length(); i += 8) {
            long eight = 0;
            int n = Math.min(8, text.length() - i);
            for (int j = n - 1; j >= 0; j--) eight = eight << 8 | text.charAt(i + j);
            if (!same("feed", eight, n)) return false;
        }
        told.add("text: " + text);
        if (!same("rules") || !same("many", 1)) return false;
        for (int k = 0; k < 6; k++) {
            if (!same("shipOf", k, 9)) return false;
        }
        return true;
    }

    private boolean same(String name, Object... args) throws Exception {
        for (Method m : LightHalves.class.getDeclaredMethods()) {
            if (m.getName().equals(name) && Modifier.isPublic(m.getModifiers())) return same(m, args);
        }
        throw new IllegalStateException(name);
    }

    private boolean same(Method m, Object... args) throws Exception {
        Method due = Model.class.getDeclaredMethod(m.getName(), m.getParameterTypes());
        Object got = m.invoke(real, args);
        Object want = due.invoke(model, args);
        called++;
        told.add(m.getName() + Arrays.toString(args) + " answered " + got + ", due is " + want);
        return got.equals(want);
    }

    /** Texts as THE RULES are told by, most of them right, some with a byte or two changed. */
    private static final class Texts {
        private final Random random;
        private final StringBuilder b = new StringBuilder();

        Texts(Random random) {
            this.random = random;
        }

        String text() {
            int rules = random.nextInt(8) == 0 ? 7 + random.nextInt(3) : random.nextInt(5);
            for (int i = 0; i < rules && b.length() < 200; i++) rule(rules > 5);
            if (random.nextInt(3) == 0 && b.length() > 0) {
                String signs = "  ;()<=>aeinot0123456789zA\t!";
                b.setCharAt(random.nextInt(b.length()), signs.charAt(random.nextInt(signs.length())));
            }
            if (random.nextInt(5) == 0) b.setLength(random.nextInt(b.length() + 1));
            if (b.length() > 200) b.setLength(200);
            return b.toString();
        }

        private void rule(boolean brief) {
            word("ship", "tender", "coaster", "collier", "brig", "captain");
            if (!brief && random.nextInt(5) > 0) {
                word("if");
                cond(random.nextInt(20) == 0 ? -1 : 0);
            }
            word("enter", "stand", "hail", "hail", "stand");
            gap();
            b.append(';');
            gap();
        }

        private void cond(int depth) {
            one(depth);
            while (random.nextInt(3) == 0 && b.length() < 200) {
                word("and", "or");
                one(depth);
            }
        }

        private void one(int depth) {
            while (random.nextInt(4) == 0) word("not");
            if (depth < 3 && random.nextInt(depth < 0 ? 1 : 3) == 0 && b.length() < 200) {
                gap();
                b.append('(');
                gap();
                cond(depth + 1);
                gap();
                b.append(')');
                return;
            }
            value();
            gap();
            b.append("<=>".charAt(random.nextInt(3)));
            gap();
            value();
        }

        private void value() {
            if (random.nextInt(2) == 0) {
                word("watch", "off", "trim", "flash", "number");
            } else {
                if (b.length() > 0 && Character.isDigit(b.charAt(b.length() - 1))) b.append(' ');
                b.append(random.nextInt(40) == 0 ? random.nextInt(100000) : random.nextInt(30));
            }
        }

        private void word(String... words) {
            if (b.length() > 0 && Character.isLetter(b.charAt(b.length() - 1)) || random.nextInt(3) == 0) b.append(' ');
            b.append(words[random.nextInt(words.length)]);
        }

        private void gap() {
            if (random.nextInt(3) == 0) b.append(' ');
        }
    }
}
