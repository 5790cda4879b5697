import java.util.ArrayDeque;
import java.util.ArrayList;
import java.util.Arrays;
import java.util.HashSet;
import java.util.List;
import java.util.Set;

/**
 * The document once more, written apart from LowAir and with no thought of speed: minutes are counted one by one,
 * noise is a log of all that was heard, and what would be is played on a whole copy. ModelTest compares the two.
 */
final class Model {
    private static final int[] ROW_STEP = {-1, 0, 1, 0};
    private static final int[] COLUMN_STEP = {0, 1, 0, -1};

    static final class Ship {
        int rank;
        int pad;
        int battery;
        int charge;
        int loudness;
        boolean link = true;
        String place = "lies";
        int cell;
        int flight = -1;
        int startedAt = -1;
        int landedAt = -1;
        int breaches;
    }

    static final class Trip {
        int craft;
        int start;
        List<Integer> cells = new ArrayList<>();
        String state = "approved";

        int end() {
            return start + 2 * (cells.size() - 1);
        }

        boolean isIn(Set<String> states) {
            return states.contains(state);
        }

        /** Texts "cell@minute" of all that it occupies. */
        Set<String> occupied() {
            Set<String> all = new HashSet<>();
            for (int k = 0; k < cells.size(); k++) {
                for (int minute = start + 2 * k - 1; minute <= start + 2 * k + 1; minute++) {
                    all.add(cells.get(k) + "@" + minute);
                }
            }
            return all;
        }
    }

    private static final List<String> STATES =
            Arrays.asList("approved", "flying", "done", "withdrawn", "missed", "broken", "lost");
    private static final Set<String> AHEAD = Set.of("approved", "flying");
    private static final Set<String> PLANNED = Set.of("approved", "flying", "done");

    private int now;
    private int windTo;
    private int force;
    private int near;
    private final int[] houses = new int[25];
    private final boolean[] towers = new boolean[25];
    private final List<Integer> pads = new ArrayList<>();
    private final List<int[]> zones = new ArrayList<>();
    private final List<Ship> ships = new ArrayList<>();
    private final List<Trip> trips = new ArrayList<>();
    private final List<Integer> draft = new ArrayList<>();
    private final List<int[]> heard = new ArrayList<>();

    private Model copy() {
        Model other = new Model();
        other.now = now;
        other.windTo = windTo;
        other.force = force;
        other.near = near;
        System.arraycopy(houses, 0, other.houses, 0, 25);
        System.arraycopy(towers, 0, other.towers, 0, 25);
        other.pads.addAll(pads);
        other.zones.addAll(zones);
        for (Ship ship : ships) {
            Ship twin = new Ship();
            twin.rank = ship.rank;
            twin.pad = ship.pad;
            twin.battery = ship.battery;
            twin.charge = ship.charge;
            twin.loudness = ship.loudness;
            twin.link = ship.link;
            twin.place = ship.place;
            twin.cell = ship.cell;
            twin.flight = ship.flight;
            twin.startedAt = ship.startedAt;
            twin.landedAt = ship.landedAt;
            twin.breaches = ship.breaches;
            other.ships.add(twin);
        }
        for (Trip trip : trips) {
            Trip twin = new Trip();
            twin.craft = trip.craft;
            twin.start = trip.start;
            twin.cells = trip.cells;
            twin.state = trip.state;
            other.trips.add(twin);
        }
        return other;
    }

    private static void index(boolean holds) {
        if (!holds) {
            throw new IndexOutOfBoundsException();
        }
    }

    private static void argument(boolean holds) {
        if (!holds) {
            throw new IllegalArgumentException();
        }
    }

    private static void state(boolean holds) {
        if (!holds) {
            throw new IllegalStateException();
        }
    }

    private static boolean within(int x, int low, int high) {
        return low <= x && x <= high;
    }

    private static void cellIs(int cell) {
        index(within(cell, 0, 24));
    }

    private void craftIs(int craft) {
        index(within(craft, 0, ships.size() - 1));
    }

    private void flightIs(int flight) {
        index(within(flight, 0, trips.size() - 1));
    }

    int now() {
        return now;
    }

    List<Integer> pads() {
        return pads;
    }

    int draftSize() {
        return draft.size();
    }

    int reason(int craft, int start) {
        return why(craft, start);
    }

    int houses(int cell, int many) {
        cellIs(cell);
        argument(within(many, 0, 9));
        int before = houses[cell];
        houses[cell] = many;
        return before;
    }

    boolean tower(int cell, boolean is) {
        cellIs(cell);
        state(!pads.contains(cell));
        boolean before = towers[cell];
        towers[cell] = is;
        return before;
    }

    int pad(int cell) {
        cellIs(cell);
        argument(!towers[cell] && !pads.contains(cell));
        state(pads.size() < 5);
        pads.add(cell);
        return pads.size() - 1;
    }

    int zone(int cell, int from, int to, int least) {
        cellIs(cell);
        argument(within(from, 0, 23) && within(to, 0, 23) && within(least, 1, 4));
        state(zones.size() < 6);
        zones.add(new int[] {cell, from, to, least});
        return zones.size() - 1;
    }

    int wind(int direction, int newForce) {
        argument(within(direction, 0, 3) && within(newForce, 0, 3));
        int before = force;
        windTo = direction;
        force = newForce;
        return before;
    }

    int craft(int pad, int rank, int battery, int loudness) {
        index(within(pad, 0, pads.size() - 1));
        argument(within(rank, 0, 3) && within(battery, 10, 200) && within(loudness, 0, 9));
        state(ships.size() < 6);
        Ship ship = new Ship();
        ship.pad = pad;
        ship.rank = rank;
        ship.battery = battery;
        ship.charge = battery;
        ship.loudness = loudness;
        ship.cell = pads.get(pad);
        ships.add(ship);
        return ships.size() - 1;
    }

    boolean link(int craft, boolean is) {
        craftIs(craft);
        boolean before = ships.get(craft).link;
        ships.get(craft).link = is;
        return before;
    }

    int fetch(int craft) {
        craftIs(craft);
        Ship ship = ships.get(craft);
        state(ship.place.equals("down"));
        int before = ship.cell;
        ship.place = "lies";
        ship.cell = pads.get(ship.pad);
        return before;
    }

    int draft(int cell) {
        cellIs(cell);
        state(draft.size() < 10);
        draft.add(cell);
        return draft.size();
    }

    int clear() {
        int before = draft.size();
        draft.clear();
        return before;
    }

    int ask(int craft, int start) {
        craftIs(craft);
        argument(start > now && start - now <= 2000);
        state(isWay() && trips.size() < 12);
        int reason = why(craft, start);
        if (reason > 0) {
            return -(reason + 1);
        }
        trips.add(tripOfDraft(craft, start));
        draft.clear();
        return trips.size() - 1;
    }

    int withdraw(int flight) {
        flightIs(flight);
        state(trips.get(flight).state.equals("approved"));
        trips.get(flight).state = "withdrawn";
        return trips.get(flight).start;
    }

    int pass(int minutes) {
        argument(within(minutes, 1, 100));
        state(now + minutes <= 5000);
        int before = inState("done");
        for (int i = 0; i < minutes; i++) {
            minute();
        }
        return inState("done") - before;
    }

    int ofCell(int cell, int what) {
        cellIs(cell);
        argument(within(what, 0, 5));
        if (what == 0) {
            return houses[cell];
        }
        if (what == 1) {
            return towers[cell] ? 1 : 0;
        }
        if (what == 2) {
            return pads.indexOf(cell);
        }
        int sum = 0;
        if (what == 3) {
            for (int[] sound : heard) {
                sum += sound[0] / 1440 == now / 1440 && sound[1] == cell ? sound[2] : 0;
            }
        } else if (what == 4) {
            sum = planned(trips, cell, now / 1440);
        } else {
            for (Ship ship : ships) {
                sum += ship.place.equals("flies") && ship.cell == cell ? 1 : 0;
            }
        }
        return sum;
    }

    int ofCraft(int craft, int what) {
        craftIs(craft);
        argument(within(what, 0, 9));
        Ship ship = ships.get(craft);
        int[] all = {ship.rank, ship.pad, ship.battery, ship.charge, ship.loudness, ship.link ? 1 : 0,
            Arrays.asList("lies", "flies", "down").indexOf(ship.place), ship.cell,
            ship.place.equals("flies") ? ship.flight : -1, ship.breaches};
        return all[what];
    }

    int ofFlight(int flight, int what) {
        flightIs(flight);
        argument(within(what, 0, 4));
        Trip trip = trips.get(flight);
        return new int[] {STATES.indexOf(trip.state), trip.craft, trip.start, trip.end(), trip.cells.size()}[what];
    }

    int occupies(int cell, int minute) {
        cellIs(cell);
        argument(minute >= 0);
        for (Trip trip : trips) {
            if (trip.isIn(AHEAD) && trip.occupied().contains(cell + "@" + minute)) {
                return trips.indexOf(trip);
            }
        }
        return -1;
    }

    int many(int what) {
        argument(within(what, 0, 15));
        if (what >= 6 && what <= 12) {
            return inState(STATES.get(what - 6));
        }
        int breaches = 0;
        for (Ship ship : ships) {
            breaches += ship.breaches;
        }
        int noise = 0;
        for (int[] sound : heard) {
            noise += sound[2];
        }
        return new int[] {now, pads.size(), zones.size(), ships.size(), trips.size(), draft.size(),
            0, 0, 0, 0, 0, 0, 0, near, breaches, noise}[what];
    }

    double meanCharge() {
        double sum = 0;
        for (Ship ship : ships) {
            sum += (double) ship.charge / ship.battery;
        }
        return ships.isEmpty() ? 0 : sum / ships.size();
    }

    int why(int craft, int start) {
        craftIs(craft);
        argument(start > now && start - now <= 2000);
        state(isWay());
        Trip asked = tripOfDraft(craft, start);
        Ship ship = ships.get(craft);
        for (int cell : draft) {
            if (towers[cell]) {
                return 1;
            }
        }
        for (String there : asked.occupied()) {
            String[] parts = there.split("@");
            if (isShut(Integer.parseInt(parts[0]), ship.rank, Integer.parseInt(parts[1]))) {
                return 2;
            }
        }
        for (Trip trip : trips) {
            Set<String> both = trip.occupied();
            both.retainAll(asked.occupied());
            if (trip.craft != craft && trip.isIn(AHEAD) && !both.isEmpty()) {
                return 3;
            }
        }
        for (Trip trip : trips) {
            if (trip.craft == craft && trip.isIn(AHEAD)
                    && trip.start <= asked.end() + 2 && trip.end() >= asked.start - 2) {
                return 4;
            }
        }
        int charge = 2;
        for (int k = 1; k < draft.size(); k++) {
            charge += moveCost(draft.get(k - 1), draft.get(k));
        }
        if (charge > ship.charge) {
            return 5;
        }
        List<Trip> withIt = new ArrayList<>(trips);
        withIt.add(asked);
        for (int cell : draft) {
            if (planned(withIt, cell, start / 1440) > 60) {
                return 6;
            }
        }
        return 0;
    }

    int soonest(int craft) {
        craftIs(craft);
        state(isWay());
        for (int start = now + 1; start <= now + 200; start++) {
            if (why(craft, start) == 0) {
                return start;
            }
        }
        return -1;
    }

    /** Breadth first. */
    int way(int craft, int cell) {
        craftIs(craft);
        cellIs(cell);
        Ship ship = ships.get(craft);
        int[] far = new int[25];
        Arrays.fill(far, -1);
        far[ship.cell] = 0;
        ArrayDeque<Integer> open = new ArrayDeque<>();
        open.add(ship.cell);
        while (!open.isEmpty()) {
            int here = open.remove();
            for (int next = 0; next < 25; next++) {
                if (areNeighbours(here, next) && far[next] < 0 && isOpen(next, ship)) {
                    far[next] = far[here] + 1;
                    open.add(next);
                }
            }
        }
        return far[cell];
    }

    /** The cheapest one that is not settled is settled next. */
    int cost(int craft, int cell) {
        craftIs(craft);
        cellIs(cell);
        Ship ship = ships.get(craft);
        int[] charge = new int[25];
        Arrays.fill(charge, Integer.MAX_VALUE);
        charge[ship.cell] = 0;
        Set<Integer> settled = new HashSet<>();
        while (true) {
            int best = -1;
            for (int c = 0; c < 25; c++) {
                if (!settled.contains(c) && charge[c] < Integer.MAX_VALUE && (best < 0 || charge[c] < charge[best])) {
                    best = c;
                }
            }
            if (best < 0) {
                return charge[cell] == Integer.MAX_VALUE ? -1 : charge[cell];
            }
            settled.add(best);
            for (int next = 0; next < 25; next++) {
                if (areNeighbours(best, next) && isOpen(next, ship)) {
                    charge[next] = Math.min(charge[next], charge[best] + moveCost(best, next));
                }
            }
        }
    }

    int wouldNear(int minutes) {
        argument(within(minutes, 1, 100));
        Model then = copy();
        for (int i = 0; i < minutes; i++) {
            then.minute();
        }
        return then.near - near;
    }

    int wouldHave(int craft, int minutes) {
        craftIs(craft);
        argument(within(minutes, 1, 100));
        Model then = copy();
        for (int i = 0; i < minutes; i++) {
            then.minute();
        }
        Ship ship = then.ships.get(craft);
        return ship.place.equals("down") ? -1 : ship.charge;
    }

    long digest() {
        List<Integer> all = new ArrayList<>();
        for (int what = 0; what < 16; what++) {
            all.add(many(what));
        }
        for (int cell = 0; cell < 25; cell++) {
            for (int what = 0; what < 6; what++) {
                all.add(ofCell(cell, what));
            }
            all.add(occupies(cell, now + 3));
        }
        for (int craft = 0; craft < ships.size(); craft++) {
            for (int what = 0; what < 10; what++) {
                all.add(ofCraft(craft, what));
            }
            all.addAll(Arrays.asList(way(craft, 12), cost(craft, 12), wouldHave(craft, 10)));
        }
        for (int flight = 0; flight < trips.size(); flight++) {
            for (int what = 0; what < 5; what++) {
                all.add(ofFlight(flight, what));
            }
        }
        all.add(wouldNear(12));
        for (int craft = 0; isWay() && craft < ships.size(); craft++) {
            all.add(soonest(craft));
        }
        long d = 4813;
        for (int v : all) {
            d = d * 31 + v;
        }
        return d;
    }

    // ---- one minute

    private void minute() {
        now++;
        for (Trip trip : trips) {
            if (trip.state.equals("approved") && trip.start == now) {
                start(trip);
            }
        }
        for (Ship ship : ships) {
            int flown = now - ship.startedAt;
            if (ship.place.equals("flies") && flown > 0 && flown % 2 == 0) {
                fly(ship, trips.get(ship.flight));
            }
        }
        for (Ship one : ships) {
            for (Ship other : ships) {
                boolean bothFly = one.place.equals("flies") && other.place.equals("flies");
                if (ships.indexOf(one) < ships.indexOf(other) && bothFly && one.cell == other.cell) {
                    near++;
                }
            }
        }
        for (Ship ship : ships) {
            if (ship.place.equals("lies") && ship.landedAt != now) {
                ship.charge = Math.min(ship.charge + 3, ship.battery);
            }
        }
    }

    private void start(Trip trip) {
        Ship ship = ships.get(trip.craft);
        boolean there = ship.place.equals("lies") && ship.cell == trip.cells.get(0);
        if (there && ship.charge >= 2 && ship.link) {
            ship.charge -= 2;
            ship.place = "flies";
            ship.flight = trips.indexOf(trip);
            ship.startedAt = now;
            trip.state = "flying";
            sound(ship);
        } else {
            trip.state = "missed";
        }
    }

    private void fly(Ship ship, Trip trip) {
        if (trip.state.equals("flying") && !ship.link) {
            trip.state = "broken";
        }
        int home = pads.get(ship.pad);
        if (trip.state.equals("broken") && ship.cell == home) {
            land(ship);
            return;
        }
        int next;
        if (trip.state.equals("flying")) {
            next = trip.cells.get((now - trip.start) / 2);
        } else if (ship.cell / 5 != home / 5) {
            next = ship.cell + 5 * Integer.signum(home / 5 - ship.cell / 5);
        } else {
            next = ship.cell + Integer.signum(home % 5 - ship.cell % 5);
        }
        int costs = moveCost(ship.cell, next);
        if (costs > ship.charge) {
            ship.charge = 0;
            ship.place = "down";
            trip.state = "lost";
            return;
        }
        ship.charge -= costs;
        ship.cell = next;
        sound(ship);
        if (trip.state.equals("flying") && now == trip.end()) {
            land(ship);
            trip.state = "done";
        } else if (trip.state.equals("broken") && ship.cell == home) {
            land(ship);
        }
    }

    private void land(Ship ship) {
        ship.place = "lies";
        ship.landedAt = now;
    }

    private void sound(Ship ship) {
        heard.add(new int[] {now, ship.cell, ship.loudness * houses[ship.cell]});
        if (isShut(ship.cell, ship.rank, now)) {
            ship.breaches++;
        }
    }

    // ---- small questions

    private boolean isWay() {
        if (draft.size() < 2 || !pads.contains(draft.get(0)) || !pads.contains(draft.get(draft.size() - 1))) {
            return false;
        }
        for (int k = 1; k < draft.size(); k++) {
            if (!areNeighbours(draft.get(k - 1), draft.get(k))) {
                return false;
            }
        }
        return true;
    }

    private Trip tripOfDraft(int craft, int start) {
        Trip trip = new Trip();
        trip.craft = craft;
        trip.start = start;
        trip.cells.addAll(draft);
        return trip;
    }

    private int inState(String state) {
        int found = 0;
        for (Trip trip : trips) {
            found += trip.state.equals(state) ? 1 : 0;
        }
        return found;
    }

    private int planned(List<Trip> all, int cell, int day) {
        int sum = 0;
        for (Trip trip : all) {
            for (int there : trip.cells) {
                if (trip.isIn(PLANNED) && trip.start / 1440 == day && there == cell) {
                    sum += ships.get(trip.craft).loudness * houses[cell];
                }
            }
        }
        return sum;
    }

    /** Walks through the hours from the first one that is shut. */
    private boolean isShut(int cell, int rank, int minute) {
        int hour = minute / 60 % 24;
        for (int[] zone : zones) {
            boolean covers = zone[1] == zone[2];
            for (int h = zone[1]; h != zone[2]; h = (h + 1) % 24) {
                covers |= h == hour;
            }
            if (covers && zone[0] == cell && rank < zone[3]) {
                return true;
            }
        }
        return false;
    }

    private boolean isOpen(int cell, Ship ship) {
        return !towers[cell] && !isShut(cell, ship.rank, now);
    }

    private static boolean areNeighbours(int a, int b) {
        return Math.abs(a / 5 - b / 5) + Math.abs(a % 5 - b % 5) == 1;
    }

    private int moveCost(int from, int to) {
        int rows = to / 5 - from / 5;
        int columns = to % 5 - from % 5;
        // 1 with the wind, -1 against it, 0 across it.
        int along = rows * ROW_STEP[windTo] + columns * COLUMN_STEP[windTo];
        return Math.max(1, 4 - along * force);
    }
}
