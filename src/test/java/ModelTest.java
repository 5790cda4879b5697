import java.util.Arrays;
import java.util.List;
import java.util.Map;
import java.util.Random;
import java.util.TreeMap;
import java.util.function.Supplier;

/** Random runs (always the same ones), each call made to LowAir and to Model: the answers must be the same. */
public final class ModelTest {
    private static final int RUNS = 400;
    private static final int CALLS = 512;

    private static final String[] NAMES = {
        "houses", "tower", "pad", "zone", "wind", "craft", "link", "fetch", "draft", "clear", "ask", "withdraw",
        "pass", "ofCell", "ofCraft", "ofFlight", "occupies", "many", "meanCharge", "why", "soonest", "way", "cost",
        "wouldNear", "wouldHave", "digest",
    };
    private static final int[] WEIGHTS = {
        8, 3, 6, 4, 5, 8, 6, 12, 6, 2, 4, 2,
        12, 4, 6, 4, 4, 3, 2, 5, 3, 4, 4,
        4, 4, 3,
    };

    private final Random random;
    private final LowAir air = new LowAir();
    private final Model model = new Model();
    private final StringBuilder log = new StringBuilder();
    private static final Map<String, Integer> SEEN = new TreeMap<>();
    private int calls = 0;

    private ModelTest(int seed) {
        random = new Random(seed);
    }

    public static void main(String[] args) {
        int runs = args.length > 0 ? Integer.parseInt(args[0]) : RUNS;
        for (int seed = 0; seed < runs && Check.isClean(); seed++) {
            Check.part("run " + seed);
            new ModelTest(seed).run(seed);
        }
        for (int state = 0; state < 7; state++) {
            needs("state " + state);
        }
        for (int reason = 0; reason < 7; reason++) {
            needs("reason " + reason);
        }
        needs("near");
        needs("breach");
        needs("would be down");
        System.out.println(SEEN);
        Check.end();
    }

    /** A run that never gets there would compare nothing. */
    private static void needs(String what) {
        if (SEEN.getOrDefault(what, 0) < 10 && Check.isClean()) {
            Check.fault("seldom seen in these runs: " + what);
        }
    }

    private static void seen(String what, int times) {
        SEEN.merge(what, times, Integer::sum);
    }

    private void run(int seed) {
        if (seed % 8 != 0) {
            settle();
        }
        while (calls < CALLS - 60 && Check.isClean()) {
            int drawn = random.nextInt(10);
            if (drawn < 2) {
                draftAWay();
            } else if (drawn < 6) {
                flyOn();
            } else {
                call(NAMES[weighted()]);
            }
        }
        both("digest");
        seen("near", model.many(13));
        seen("breach", model.many(14));
    }

    /** Some pads close together and some craft, so that flights meet. */
    private void settle() {
        int[] cells = {12, 13, 7, 2, 10};
        for (int i = 0; i < 2 + random.nextInt(4); i++) {
            both("pad", random.nextInt(3) == 0 ? random.nextInt(25) : cells[i]);
        }
        for (int i = 0; i < 2 + random.nextInt(5); i++) {
            int battery = random.nextInt(2) == 0 ? 10 + random.nextInt(30) : 10 + random.nextInt(191);
            both("craft", random.nextInt(2), random.nextInt(4), battery, random.nextInt(10));
        }
        for (int i = 0; i < 5; i++) {
            both("houses", random.nextInt(25), random.nextInt(10));
        }
    }

    /** From where a craft is towards a pad, with a detour now and then, and asks for it. */
    private void draftAWay() {
        List<Integer> pads = model.pads();
        if (pads.isEmpty() || model.many(3) == 0) {
            return;
        }
        both("clear");
        int craft = random.nextInt(model.many(3));
        int here = model.ofCraft(craft, 7);
        int target = pads.get(random.nextInt(pads.size()));
        both("draft", here);
        for (int i = 0; i < 9 && (here != target || i == 0 || random.nextInt(4) == 0); i++) {
            here = random.nextInt(5) == 0 ? anyNeighbour(here) : towards(here, target);
            both("draft", here);
        }
        if (random.nextInt(3) == 0) {
            both("soonest", craft);
        }
        for (int i = 0; i < 3 && model.draftSize() > 0; i++) {
            int start = model.now() + 1 + (random.nextInt(12) == 0 ? random.nextInt(2000) : 2 * random.nextInt(8));
            both(random.nextInt(4) == 0 ? "why" : "ask", random.nextInt(6) == 0 ? craftNumber() : craft, start);
        }
    }

    /** A few minutes in which craft in the air lose their link, the wind turns and zones are told. */
    private void flyOn() {
        boolean isStorm = random.nextInt(8) == 0;
        for (int craft = 0; craft < model.many(3); craft++) {
            int state = model.ofCraft(craft, 6);
            if (state == 1 && isStorm) {
                both("link", craft, 0);
            } else if (state == 1 && random.nextInt(12) == 0) {
                both("link", craft, random.nextInt(3) == 0 ? 1 : 0);
            } else if (state == 0 && random.nextInt(3) == 0 && model.ofCraft(craft, 5) == 0) {
                both("link", craft, 1);
            } else if (state == 2 && random.nextInt(2) == 0) {
                both("fetch", craft);
            }
            if (state == 1 && random.nextInt(4) == 0) {
                both("wouldHave", craft, 1 + random.nextInt(20));
                both("wouldNear", 1 + random.nextInt(20));
            }
            if (state == 1 && random.nextInt(20) == 0) {
                int next = model.ofCraft(craft, 7) + 1;
                both("zone", next, random.nextInt(24), random.nextInt(24), 1 + random.nextInt(4));
                both("wind", random.nextInt(4), 3);
            }
        }
        // Those that are broken keep nobody out of their cells, so now some may come near.
        if (isStorm && calls < CALLS - 60) {
            draftAWay();
            draftAWay();
        }
        both("pass", 1 + random.nextInt(3));
    }

    private int towards(int here, int target) {
        int rows = Integer.signum(target / 5 - here / 5);
        int columns = Integer.signum(target % 5 - here % 5);
        if (rows == 0 && columns == 0) {
            return anyNeighbour(here);
        }
        return rows != 0 && (columns == 0 || random.nextBoolean()) ? here + 5 * rows : here + columns;
    }

    private int anyNeighbour(int here) {
        int[] steps = {-5, 1, 5, -1};
        while (true) {
            int next = here + steps[random.nextInt(4)];
            int apart = Math.abs(next / 5 - here / 5) + Math.abs(next % 5 - here % 5);
            if (next >= 0 && next < 25 && apart == 1) {
                return next;
            }
        }
    }

    private int weighted() {
        int sum = 0;
        for (int weight : WEIGHTS) {
            sum += weight;
        }
        int drawn = random.nextInt(sum);
        int i = 0;
        while (drawn >= WEIGHTS[i]) {
            drawn -= WEIGHTS[i];
            i++;
        }
        return i;
    }

    /** Mostly within bounds, sometimes just outside them, seldom far away. */
    private int number(int low, int high) {
        switch (random.nextInt(24)) {
            case 0:
                return low - 1;
            case 1:
                return high + 1;
            case 2:
                return low;
            case 3:
                return high;
            case 4:
                return random.nextBoolean() ? Integer.MIN_VALUE : Integer.MAX_VALUE;
            default:
                return low + random.nextInt(high - low + 1);
        }
    }

    private int craftNumber() {
        return number(0, Math.max(0, model.many(3) - 1));
    }

    private int flightNumber() {
        return number(0, Math.max(0, model.many(4) - 1));
    }

    private int soon() {
        return random.nextInt(6) == 0 ? model.now() + number(1, 2000) : model.now() + number(1, 30);
    }

    private void call(String name) {
        int truth = random.nextInt(2);
        switch (name) {
            case "houses":
                both(name, number(0, 24), number(0, 9));
                break;
            case "tower":
                both(name, number(0, 24), random.nextInt(3) == 0 ? 1 : 0);
                break;
            case "pad": case "draft":
                both(name, number(0, 24));
                break;
            case "zone":
                both(name, number(0, 24), number(0, 23), number(0, 23), number(1, 4));
                break;
            case "wind":
                both(name, number(0, 3), number(0, 3));
                break;
            case "craft":
                both(name, number(0, Math.max(0, model.many(1) - 1)), number(0, 3), number(10, 200), number(0, 9));
                break;
            case "link":
                both(name, craftNumber(), random.nextInt(3) == 0 ? 0 : 1);
                break;
            case "fetch": case "soonest":
                both(name, craftNumber());
                break;
            case "ask": case "why":
                both(name, craftNumber(), soon());
                break;
            case "withdraw":
                both(name, flightNumber());
                break;
            case "pass":
                both(name, random.nextInt(12) == 0 ? number(1, 100) : number(1, 6));
                break;
            case "ofCell":
                both(name, number(0, 24), number(0, 5));
                break;
            case "ofCraft":
                both(name, craftNumber(), number(0, 9));
                break;
            case "ofFlight":
                both(name, flightNumber(), number(0, 4));
                break;
            case "occupies":
                both(name, number(0, 24), random.nextInt(4) == 0 ? number(0, 7100) : Math.abs(soon()));
                break;
            case "many":
                both(name, number(0, 15));
                break;
            case "way": case "cost":
                both(name, craftNumber(), number(0, 24));
                break;
            case "wouldNear":
                both(name, number(1, 100));
                break;
            case "wouldHave":
                both(name, craftNumber(), number(1, 100));
                break;
            default:
                both(name);
        }
    }

    private void both(String name, int... a) {
        calls++;
        String text = name + Arrays.toString(a);
        log.append(text).append('\n');
        String due = answer(() -> ofModel(name, a));
        String got = answer(() -> ofAir(name, a));
        Check.same(text + " got " + got + ", due " + due + (got.equals(due) ? "" : ", behind\n" + log),
                got.equals(due) ? 1 : 0, 1);
        if (name.equals("ask") || name.equals("why")) {
            if (due.matches("-?\\d+")) {
                int number = Integer.parseInt(due);
                seen("reason " + (name.equals("why") ? number : number < 0 ? -number - 1 : 0), 1);
            }
        }
        if (name.equals("pass")) {
            for (int state = 0; state < 7; state++) {
                seen("state " + state, model.many(6 + state));
            }
        }
        if (name.equals("wouldHave") && due.equals("-1")) {
            seen("would be down", 1);
        }
        if (!name.equals("meanCharge") && random.nextInt(20) == 0) {
            both("meanCharge");
        }
    }

    private static String answer(Supplier<Object> call) {
        try {
            return String.valueOf(call.get());
        } catch (RuntimeException thrown) {
            return thrown.getClass().getName();
        }
    }

    private Object ofAir(String name, int[] a) {
        switch (name) {
            case "houses": return air.houses(a[0], a[1]);
            case "tower": return air.tower(a[0], a[1] == 1);
            case "pad": return air.pad(a[0]);
            case "zone": return air.zone(a[0], a[1], a[2], a[3]);
            case "wind": return air.wind(a[0], a[1]);
            case "craft": return air.craft(a[0], a[1], a[2], a[3]);
            case "link": return air.link(a[0], a[1] == 1);
            case "fetch": return air.fetch(a[0]);
            case "draft": return air.draft(a[0]);
            case "clear": return air.clear();
            case "ask": return air.ask(a[0], a[1]);
            case "withdraw": return air.withdraw(a[0]);
            case "pass": return air.pass(a[0]);
            case "ofCell": return air.ofCell(a[0], a[1]);
            case "ofCraft": return air.ofCraft(a[0], a[1]);
            case "ofFlight": return air.ofFlight(a[0], a[1]);
            case "occupies": return air.occupies(a[0], a[1]);
            case "many": return air.many(a[0]);
            case "meanCharge": return air.meanCharge();
            case "why": return air.why(a[0], a[1]);
            case "soonest": return air.soonest(a[0]);
            case "way": return air.way(a[0], a[1]);
            case "cost": return air.cost(a[0], a[1]);
            case "wouldNear": return air.wouldNear(a[0]);
            case "wouldHave": return air.wouldHave(a[0], a[1]);
            default: return air.digest();
        }
    }

    private Object ofModel(String name, int[] a) {
        switch (name) {
            case "houses": return model.houses(a[0], a[1]);
            case "tower": return model.tower(a[0], a[1] == 1);
            case "pad": return model.pad(a[0]);
            case "zone": return model.zone(a[0], a[1], a[2], a[3]);
            case "wind": return model.wind(a[0], a[1]);
            case "craft": return model.craft(a[0], a[1], a[2], a[3]);
            case "link": return model.link(a[0], a[1] == 1);
            case "fetch": return model.fetch(a[0]);
            case "draft": return model.draft(a[0]);
            case "clear": return model.clear();
            case "ask": return model.ask(a[0], a[1]);
            case "withdraw": return model.withdraw(a[0]);
            case "pass": return model.pass(a[0]);
            case "ofCell": return model.ofCell(a[0], a[1]);
            case "ofCraft": return model.ofCraft(a[0], a[1]);
            case "ofFlight": return model.ofFlight(a[0], a[1]);
            case "occupies": return model.occupies(a[0], a[1]);
            case "many": return model.many(a[0]);
            case "meanCharge": return model.meanCharge();
            case "why": return model.why(a[0], a[1]);
            case "soonest": return model.soonest(a[0]);
            case "way": return model.way(a[0], a[1]);
            case "cost": return model.cost(a[0], a[1]);
            case "wouldNear": return model.wouldNear(a[0]);
            case "wouldHave": return model.wouldHave(a[0], a[1]);
            default: return model.digest();
        }
    }
}
