import java.util.ArrayList;
import java.util.LinkedHashMap;
import java.util.List;
import java.util.Map;
import java.util.TreeSet;
import java.util.function.Consumer;

/** An object in which nothing stands as at first, and all that can be asked of one. */
final class Scene {
    /** What stands in an object, told apart from what is reckoned of it. */
    final Map<String, Integer> stands = new LinkedHashMap<>();
    private final LightHalves x;

    /** Reads all of it; some can only be read by changing it, so the object is of no more use. */
    private Scene(LightHalves x) {
        this.x = x;
        host();
        rock("");
        tell("many(1) of THE TAPE", Due.rules(x, ";"));
        wills("by THE TAPE ");
        tell("again", x.again());
        rock("kept ");
    }

    /** Four SHIPS in WATCH 2 of 9: 0 a tender HOME, 1 a collier ON THE ROCK, 2 a brig, 3 a captain; another rock is kept. */
    static LightHalves made() {
        LightHalves x = new LightHalves();
        keepAnother(x);
        x.anew();
        x.ship(4, 48, 5, 0);
        x.ship(5, 30, 9, 0);
        x.ends(9);
        x.light(2, 13);
        x.lane(0, 0, 1);
        x.lane(0, 1, 3);
        Due.rules(x, "brig if off > 40 stand; ship if number = 2 hail;");
        x.change(0, 4, 1);
        Due.watches(x, 2);
        x.change(1, 1, 0);
        x.seed(77);
        x.report(3, 1, 1, 3);
        Due.feed(x, "brig stand; ship hail");
        x.prove(3);
        x.alterRow(1, 1, 40);
        sheets(x);
        x.shelf(0, 0, 2);
        x.shelf(1, 1, 1);
        x.shelf(3, 0, 3);
        x.act(0, 3, 7);
        return x;
    }

    private static void keepAnother(LightHalves x) {
        x.ship(1, 40, 1, 3);
        x.ship(3, 50, 8, 2);
        x.ends(14);
        x.light(7, 3);
        x.lane(5, 0, 2);
        x.seed(99);
        Due.rules(x, "tender hail;");
        x.report(2, 0, 30, 60);
        x.watch();
        x.keep();
    }

    /** SHEET 0 are ACTS and what is none, 1 are shorts, 2 is missing, 3 are longs. */
    private static void sheets(LightHalves x) {
        x.sheet(0, 0, 5);
        int[] acts = {3, 0, 2, 99, -1};
        for (int i = 0; i < acts.length; i++) {
            x.write(0, i, acts[i]);
        }
        x.sheet(1, 1, 3);
        x.write(1, 0, 300);
        x.write(1, 1, -7);
        x.sheet(3, 3, 2);
        x.write(3, 1, 123456789);
    }

    static Scene of(LightHalves x) {
        return new Scene(x);
    }

    /** What stands otherwise in the scene behind a call than without it. */
    static String changedBy(Consumer<LightHalves> call) {
        return changedBy(x -> { }, call);
    }

    /** The same with something done ahead of both. */
    static String changedBy(Consumer<LightHalves> ahead, Consumer<LightHalves> call) {
        LightHalves before = made();
        ahead.accept(before);
        LightHalves behind = made();
        ahead.accept(behind);
        call.accept(behind);
        return unlike(of(before).stands, of(behind).stands);
    }

    /** Of what changed those names in which a part doesn't stand. */
    static String but(String changed, String part) {
        List<String> others = new ArrayList<>();
        for (String name : changed.split(", ")) {
            if (!name.contains(part)) {
                others.add(name);
            }
        }
        return String.join(", ", others);
    }

    private static String unlike(Map<String, Integer> one, Map<String, Integer> other) {
        TreeSet<String> names = new TreeSet<>(one.keySet());
        names.addAll(other.keySet());
        List<String> unlike = new ArrayList<>();
        for (String name : names) {
            if (!String.valueOf(one.get(name)).equals(String.valueOf(other.get(name)))) {
                unlike.add(name);
            }
        }
        return String.join(", ", unlike);
    }

    private void tell(String what, int answer) {
        stands.put(what, answer);
    }

    private void host() {
        tell("bytes of THE TAPE", x.many(5));
        for (int k = 0; k < 5; k++) {
            for (int what = 0; what < 3; what++) {
                tell("row " + k + " " + what, x.row(k, what));
            }
        }
        for (int i = 0; i < 12; i++) {
            tell("trace " + i, x.trace(i));
        }
        for (int i = 0; i < 4; i++) {
            sheet(i);
            shelf(i);
        }
    }

    private void sheet(int sheet) {
        for (int sort = 0; sort < 5; sort++) {
            int answer = x.item(sheet, sort, 0);
            if (answer == -11) {
                tell("sheet " + sheet, answer);
                return;
            }
            if (answer != -13) {
                tell("sheet " + sheet, sort);
                for (int i = 0; i < 6; i++) {
                    tell("item " + sheet + " " + i, x.item(sheet, sort, i));
                }
                return;
            }
        }
    }

    private void shelf(int shelf) {
        int ship = x.taken(shelf, 0);
        for (int as = 10; as < 15 && ship == -13; as++) {
            if (x.taken(shelf, as) != -13) {
                tell("shelf " + shelf + " of sort", as - 10);
                tell("shelf " + shelf + " of size", x.taken(shelf, as));
                return;
            }
        }
        tell("shelf " + shelf, ship);
    }

    private void rock(String of) {
        int ships = x.many(0);
        for (int k = 0; k < ships; k++) {
            String[] names = {"kind ", "off ", "trim ", "lane ", "home "};
            for (int what = 0; what < names.length; what++) {
                tell(of + names[what] + k, x.shipOf(k, what));
            }
        }
        String[] names = {"watch", "end", "score"};
        for (int what = 0; what < names.length; what++) {
            tell(of + names[what], x.state(what));
        }
        for (int f = 0; f < 6; f++) {
            tell(of + "current " + f, x.laneOf(f, 0));
            tell(of + "buoy " + f, x.laneOf(f, 1));
        }
        for (int watch = 0; watch < 16; watch++) {
            tell(of + "light " + watch, x.light(watch, 9));
        }
        tell(of + "z", x.seed(1));
        reports(of);
        x.anew();
        tell(of + "many(1)", x.many(1));
        wills(of);
    }

    /** Asked when each LIGHT is 9, so that only REPORTS tell. */
    private void reports(String of) {
        tell(of + "many(3)", x.many(3));
        for (int what = 0; what < 4; what++) {
            tell(of + "lone " + what, x.lone(what));
        }
        tell(of + "liar", x.liar());
    }

    /** Asked of the same SHIPS at the same places, so that only THE RULES tell. */
    private void wills(String of) {
        for (int k = 0; k < x.many(0); k++) {
            x.remake(k, 1 + k % 5);
            x.change(k, 2, 4);
            for (int off = 39; off <= 41; off += 2) {
                x.change(k, 1, off);
                tell(of + "will " + k + " at " + off, x.shipOf(k, 9));
            }
        }
    }
}
