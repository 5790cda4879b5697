import java.util.Arrays;

/**
 * The air between houses and small craft in it.
 *
 * <p>Every row is made in the constructor and used again, so that no later call makes an object.
 */
public final class LowAir {
    private static final int NONE = -1;

    private static final int SIDE = 5;
    private static final int CELLS = 25;
    private static final int DIRECTIONS = 4;
    private static final int NORTH = 0;
    private static final int EAST = 1;
    private static final int SOUTH = 2;
    private static final int WEST = 3;

    private static final int MOST_HOUSES = 9;
    private static final int MOST_PADS = 5;
    private static final int MOST_ZONES = 6;
    private static final int MOST_CRAFT = 6;
    private static final int MOST_FLIGHTS = 12;
    private static final int MOST_DRAFT = 10;
    private static final int MOST_FORCE = 3;
    private static final int MOST_RANK = 3;
    private static final int LEAST_BATTERY = 10;
    private static final int MOST_BATTERY = 200;
    private static final int MOST_LOUDNESS = 9;
    private static final int MOST_LEAST = 4;

    private static final int HOUR = 60;
    private static final int HOURS = 24;
    private static final int DAY = 1440;
    private static final int LAST_NOW = 5000;
    private static final int MOST_AHEAD = 2000;
    private static final int MOST_MINUTES = 100;
    private static final int SOONEST_WITHIN = 200;

    private static final int START_COST = 2;
    private static final int MOVE_COST = 4;
    private static final int CHARGE_A_MINUTE = 3;
    private static final int MOST_PLANNED = 60;

    private static final int APPROVED = 0;
    private static final int FLYING = 1;
    private static final int DONE = 2;
    private static final int WITHDRAWN = 3;
    private static final int MISSED = 4;
    private static final int BROKEN = 5;
    private static final int LOST = 6;

    private static final int LIES = 0;
    private static final int FLIES = 1;
    private static final int DOWN = 2;

    private static final int NO_REASON = 0;
    private static final int REASON_TOWER = 1;
    private static final int REASON_ZONE = 2;
    private static final int REASON_OTHERS = 3;
    private static final int REASON_SAME_CRAFT = 4;
    private static final int REASON_CHARGE = 5;
    private static final int REASON_NOISE = 6;

    private final Ground ground = new Ground();
    private final Sky sky = new Sky(ground);
    /** What would be is played here, so that the sky itself stays as it is. */
    private final Sky trial = new Sky(ground);
    private final Route draft = new Route();
    private final Judge judge = new Judge(ground, sky);
    private final Search search = new Search(ground);

    /** Creates an air without craft, NOW 0. */
    public LowAir() {
    }

    // ---- what is told

    /** Tells the houses of a cell; returns those before. */
    public int houses(int cell, int houses) throws IndexOutOfBoundsException, IllegalArgumentException {
        checkCell(cell);
        checkArgument(houses >= 0 && houses <= MOST_HOUSES);
        int before = ground.houses[cell];
        ground.houses[cell] = houses;
        return before;
    }

    /** Builds a tower, or takes it away; returns whether there was one. */
    public boolean tower(int cell, boolean is) throws IndexOutOfBoundsException, IllegalStateException {
        checkCell(cell);
        checkState(ground.padAt[cell] == NONE);
        boolean before = ground.towers[cell];
        ground.towers[cell] = is;
        return before;
    }

    /** Tells a pad; returns its number. */
    public int pad(int cell) throws IndexOutOfBoundsException, IllegalArgumentException, IllegalStateException {
        checkCell(cell);
        checkArgument(!ground.towers[cell] && ground.padAt[cell] == NONE);
        checkState(ground.padCount < MOST_PADS);
        return ground.addPad(cell);
    }

    /** Tells a zone; returns its number. */
    public int zone(int cell, int from, int to, int least)
            throws IndexOutOfBoundsException, IllegalArgumentException, IllegalStateException {
        checkCell(cell);
        checkArgument(from >= 0 && from < HOURS && to >= 0 && to < HOURS);
        checkArgument(least >= 1 && least <= MOST_LEAST);
        checkState(ground.zoneCount < MOST_ZONES);
        return ground.addZone(cell, from, to, least);
    }

    /** Tells the wind from now on; returns the force before. */
    public int wind(int direction, int force) throws IllegalArgumentException {
        checkArgument(direction >= 0 && direction < DIRECTIONS && force >= 0 && force <= MOST_FORCE);
        int before = ground.windForce;
        ground.windDirection = direction;
        ground.windForce = force;
        return before;
    }

    /** Tells a craft; returns its number. */
    public int craft(int pad, int rank, int battery, int loudness)
            throws IndexOutOfBoundsException, IllegalArgumentException, IllegalStateException {
        checkIndex(pad >= 0 && pad < ground.padCount);
        checkArgument(rank >= 0 && rank <= MOST_RANK);
        checkArgument(battery >= LEAST_BATTERY && battery <= MOST_BATTERY);
        checkArgument(loudness >= 0 && loudness <= MOST_LOUDNESS);
        checkState(sky.craftCount < MOST_CRAFT);
        Craft added = sky.crafts[sky.craftCount];
        added.rank = rank;
        added.homePad = pad;
        added.homeCell = ground.padCells[pad];
        added.battery = battery;
        added.charge = battery;
        added.loudness = loudness;
        added.cell = added.homeCell;
        return sky.craftCount++;
    }

    /** Tells whether a craft has its link; returns whether it had. */
    public boolean link(int craft, boolean is) throws IndexOutOfBoundsException {
        checkCraft(craft);
        boolean before = sky.crafts[craft].linked;
        sky.crafts[craft].linked = is;
        return before;
    }

    /** Fetches a craft that is down to its home pad; returns the cell where it was. */
    public int fetch(int craft) throws IndexOutOfBoundsException, IllegalStateException {
        checkCraft(craft);
        Craft fetched = sky.crafts[craft];
        checkState(fetched.state == DOWN);
        int before = fetched.cell;
        fetched.state = LIES;
        fetched.cell = fetched.homeCell;
        return before;
    }

    // ---- flights

    /** Adds a cell to the draft; returns how many it has then. */
    public int draft(int cell) throws IndexOutOfBoundsException, IllegalStateException {
        checkCell(cell);
        checkState(draft.count < MOST_DRAFT);
        draft.cells[draft.count] = cell;
        draft.count++;
        return draft.count;
    }

    /** Clears the draft; returns how many cells it had. */
    public int clear() {
        int before = draft.count;
        draft.count = 0;
        return before;
    }

    /** Asks for a flight along the draft; returns its number, or -1 less the reason against it. */
    public int ask(int craft, int start)
            throws IndexOutOfBoundsException, IllegalArgumentException, IllegalStateException {
        checkCraft(craft);
        checkStart(start);
        checkState(ground.isWayFromPadToPad(draft) && sky.flightCount < MOST_FLIGHTS);
        int reason = judge.reasonAgainst(craft, draft, start);
        if (reason != NO_REASON) {
            return -1 - reason;
        }
        Flight added = sky.flights[sky.flightCount];
        added.craft = craft;
        added.start = start;
        added.state = APPROVED;
        added.route.copyFrom(draft);
        draft.count = 0;
        return sky.flightCount++;
    }

    /** Withdraws a flight; returns its start. */
    public int withdraw(int flight) throws IndexOutOfBoundsException, IllegalStateException {
        checkFlight(flight);
        Flight withdrawn = sky.flights[flight];
        checkState(withdrawn.state == APPROVED);
        withdrawn.state = WITHDRAWN;
        return withdrawn.start;
    }

    /** Lets minutes go by; returns how many flights were done in them. */
    public int pass(int minutes) throws IllegalArgumentException, IllegalStateException {
        checkMinutes(minutes);
        checkState(sky.now + minutes <= LAST_NOW);
        int before = sky.flightsIn(DONE);
        sky.play(minutes);
        return sky.flightsIn(DONE) - before;
    }

    // ---- what one asks

    /** Answers what a cell has: see the document for the numbers of what. */
    public int ofCell(int cell, int what) throws IndexOutOfBoundsException, IllegalArgumentException {
        checkCell(cell);
        switch (what) {
            case 0:
                return ground.houses[cell];
            case 1:
                return ground.towers[cell] ? 1 : 0;
            case 2:
                return ground.padAt[cell];
            case 3:
                return sky.heard[cell];
            case 4:
                return judge.plannedNoise(cell, sky.now / DAY);
            case 5:
                return sky.flyingIn(cell);
            default:
                throw new IllegalArgumentException("what is not 0 to 5");
        }
    }

    /** Answers what a craft has: see the document for the numbers of what. */
    public int ofCraft(int craft, int what) throws IndexOutOfBoundsException, IllegalArgumentException {
        checkCraft(craft);
        Craft asked = sky.crafts[craft];
        switch (what) {
            case 0:
                return asked.rank;
            case 1:
                return asked.homePad;
            case 2:
                return asked.battery;
            case 3:
                return asked.charge;
            case 4:
                return asked.loudness;
            case 5:
                return asked.linked ? 1 : 0;
            case 6:
                return asked.state;
            case 7:
                return asked.cell;
            case 8:
                return asked.flight;
            case 9:
                return asked.breaches;
            default:
                throw new IllegalArgumentException("what is not 0 to 9");
        }
    }

    /** Answers what a flight has: see the document for the numbers of what. */
    public int ofFlight(int flight, int what) throws IndexOutOfBoundsException, IllegalArgumentException {
        checkFlight(flight);
        Flight asked = sky.flights[flight];
        switch (what) {
            case 0:
                return asked.state;
            case 1:
                return asked.craft;
            case 2:
                return asked.start;
            case 3:
                return asked.route.endFrom(asked.start);
            case 4:
                return asked.route.count;
            default:
                throw new IllegalArgumentException("what is not 0 to 4");
        }
    }

    /** Returns the first flight that is to be, or is, in a cell in a minute; NONE without one. */
    public int occupies(int cell, int minute) throws IndexOutOfBoundsException, IllegalArgumentException {
        checkCell(cell);
        checkArgument(minute >= 0);
        for (int i = 0; i < sky.flightCount; i++) {
            Flight flight = sky.flights[i];
            if (flight.isAhead() && flight.occupiesIn(cell, minute)) {
                return i;
            }
        }
        return NONE;
    }

    /** Answers how many there are of something: see the document for the numbers of what. */
    public int many(int what) throws IllegalArgumentException {
        switch (what) {
            case 0:
                return sky.now;
            case 1:
                return ground.padCount;
            case 2:
                return ground.zoneCount;
            case 3:
                return sky.craftCount;
            case 4:
                return sky.flightCount;
            case 5:
                return draft.count;
            case 6: case 7: case 8: case 9: case 10: case 11: case 12:
                return sky.flightsIn(what - 6);
            case 13:
                return sky.nearCount;
            case 14:
                return sky.allBreaches();
            case 15:
                return sky.heardEver;
            default:
                throw new IllegalArgumentException("what is not 0 to 15");
        }
    }

    /** Returns the mean of charges divided by batteries; 0 without any craft. */
    public double meanCharge() {
        double sum = 0;
        for (int i = 0; i < sky.craftCount; i++) {
            Craft craft = sky.crafts[i];
            if (craft.battery > 0) {
                sum += (double) craft.charge / (double) craft.battery;
            }
        }
        return sky.craftCount > 0 ? sum / (double) sky.craftCount : 0;
    }

    // ---- what would be (nothing is changed)

    /** Returns the reason against a flight along the draft; 0 if it would be approved. */
    public int why(int craft, int start)
            throws IndexOutOfBoundsException, IllegalArgumentException, IllegalStateException {
        checkCraft(craft);
        checkStart(start);
        checkState(ground.isWayFromPadToPad(draft));
        return judge.reasonAgainst(craft, draft, start);
    }

    /** Returns the first start within 200 minutes that has no reason against it; NONE without one. */
    public int soonest(int craft) throws IndexOutOfBoundsException, IllegalStateException {
        checkCraft(craft);
        checkState(ground.isWayFromPadToPad(draft));
        for (int ahead = 1; ahead <= SOONEST_WITHIN; ahead++) {
            if (judge.reasonAgainst(craft, draft, sky.now + ahead) == NO_REASON) {
                return sky.now + ahead;
            }
        }
        return NONE;
    }

    /** Returns the fewest moves of a craft to a cell; NONE without a way. */
    public int way(int craft, int cell) throws IndexOutOfBoundsException {
        checkCraft(craft);
        checkCell(cell);
        return search.fewestMoves(sky.crafts[craft], cell, sky.now);
    }

    /** Returns the least charge for which a craft moves to a cell; NONE without a way. */
    public int cost(int craft, int cell) throws IndexOutOfBoundsException {
        checkCraft(craft);
        checkCell(cell);
        return search.leastCharge(sky.crafts[craft], cell, sky.now);
    }

    /** Returns how often craft would be near in some minutes. */
    public int wouldNear(int minutes) throws IllegalArgumentException {
        checkMinutes(minutes);
        trial.copyFrom(sky);
        trial.play(minutes);
        return trial.nearCount - sky.nearCount;
    }

    /** Returns what charge a craft would have behind some minutes; NONE if it would be down. */
    public int wouldHave(int craft, int minutes) throws IndexOutOfBoundsException, IllegalArgumentException {
        checkCraft(craft);
        checkMinutes(minutes);
        trial.copyFrom(sky);
        trial.play(minutes);
        Craft then = trial.crafts[craft];
        return then.state == DOWN ? NONE : then.charge;
    }

    /** Computes a checksum of all that one can ask. */
    public long digest() {
        long d = 4813;
        for (int what = 0; what <= 15; what++) {
            d = mixed(d, many(what));
        }
        for (int cell = 0; cell < CELLS; cell++) {
            for (int what = 0; what <= 5; what++) {
                d = mixed(d, ofCell(cell, what));
            }
            d = mixed(d, occupies(cell, sky.now + 3));
        }
        for (int craft = 0; craft < sky.craftCount; craft++) {
            for (int what = 0; what <= 9; what++) {
                d = mixed(d, ofCraft(craft, what));
            }
            d = mixed(d, way(craft, 12));
            d = mixed(d, cost(craft, 12));
            d = mixed(d, wouldHave(craft, 10));
        }
        for (int flight = 0; flight < sky.flightCount; flight++) {
            for (int what = 0; what <= 4; what++) {
                d = mixed(d, ofFlight(flight, what));
            }
        }
        d = mixed(d, wouldNear(12));
        if (ground.isWayFromPadToPad(draft)) {
            for (int craft = 0; craft < sky.craftCount; craft++) {
                d = mixed(d, soonest(craft));
            }
        }
        return d;
    }

    private static long mixed(long d, int v) {
        return d * 31 + v;
    }

    // ---- what the calls refuse

    private static void checkIndex(boolean holds) {
        if (!holds) {
            throw new IndexOutOfBoundsException("there is none of this number");
        }
    }

    private static void checkArgument(boolean holds) {
        if (!holds) {
            throw new IllegalArgumentException("an argument is outside its bounds");
        }
    }

    private static void checkState(boolean holds) {
        if (!holds) {
            throw new IllegalStateException("this cannot be done as things are");
        }
    }

    private static void checkCell(int cell) {
        checkIndex(isCell(cell));
    }

    private void checkCraft(int craft) {
        checkIndex(sky.isCraft(craft));
    }

    private void checkFlight(int flight) {
        checkIndex(flight >= 0 && flight < sky.flightCount);
    }

    private void checkStart(int start) {
        checkArgument(start > sky.now && start <= sky.now + MOST_AHEAD);
    }

    private static void checkMinutes(int minutes) {
        checkArgument(minutes >= 1 && minutes <= MOST_MINUTES);
    }

    private static boolean isCell(int cell) {
        return cell >= 0 && cell < CELLS;
    }

    /** A cell that is shut in some hours for craft of a low class. */
    private static final class Zone {
        private int cell;
        private int from;
        private int to;
        private int least;

        private boolean shuts(int asked, int rank, int minute) {
            if (cell != asked || rank >= least) {
                return false;
            }
            int hour = minute / HOUR % HOURS;
            if (from < to) {
                return hour >= from && hour < to;
            }
            // Over midnight; from an hour up to the same one this holds for every hour.
            return hour >= from || hour < to;
        }
    }

    /** A row of cells: the draft, or that of a flight. */
    private static final class Route {
        private final int[] cells = new int[MOST_DRAFT];
        private int count;

        private int first() {
            return count > 0 ? cells[0] : NONE;
        }

        private int last() {
            return count > 0 && count <= MOST_DRAFT ? cells[count - 1] : NONE;
        }

        private int at(int place) {
            return place >= 0 && place < count && place < MOST_DRAFT ? cells[place] : NONE;
        }

        private int endFrom(int start) {
            return start + 2 * (count - 1);
        }

        private void copyFrom(Route other) {
            System.arraycopy(other.cells, 0, cells, 0, MOST_DRAFT);
            count = other.count;
        }
    }

    /** What is told of the ground and of the wind above it. */
    private static final class Ground {
        private final int[] houses = new int[CELLS];
        private final boolean[] towers = new boolean[CELLS];
        private final int[] padAt = new int[CELLS];
        private final int[] padCells = new int[MOST_PADS];
        private int padCount;
        private final Zone[] zones = new Zone[MOST_ZONES];
        private int zoneCount;
        private int windDirection;
        private int windForce;

        private Ground() {
            Arrays.fill(padAt, NONE);
            for (int i = 0; i < MOST_ZONES; i++) {
                zones[i] = new Zone();
            }
        }

        private int addPad(int cell) {
            padCells[padCount] = cell;
            padAt[cell] = padCount;
            return padCount++;
        }

        private int addZone(int cell, int from, int to, int least) {
            Zone added = zones[zoneCount];
            added.cell = cell;
            added.from = from;
            added.to = to;
            added.least = least;
            return zoneCount++;
        }

        private boolean isShut(int cell, int rank, int minute) {
            for (int i = 0; i < zoneCount; i++) {
                if (zones[i].shuts(cell, rank, minute)) {
                    return true;
                }
            }
            return false;
        }

        private boolean hasPad(int cell) {
            return isCell(cell) && padAt[cell] != NONE;
        }

        private boolean isWayFromPadToPad(Route route) {
            if (route.count < 2 || !hasPad(route.first()) || !hasPad(route.last())) {
                return false;
            }
            for (int i = 1; i < route.count; i++) {
                if (directionTo(route.at(i - 1), route.at(i)) == NONE) {
                    return false;
                }
            }
            return true;
        }

        private static int neighbour(int cell, int direction) {
            int row = cell / SIDE;
            int column = cell % SIDE;
            switch (direction) {
                case NORTH:
                    return row > 0 ? cell - SIDE : NONE;
                case EAST:
                    return column < SIDE - 1 ? cell + 1 : NONE;
                case SOUTH:
                    return row < SIDE - 1 ? cell + SIDE : NONE;
                case WEST:
                    return column > 0 ? cell - 1 : NONE;
                default:
                    return NONE;
            }
        }

        /** The direction of the move between two neighbours; NONE if they are none. */
        private static int directionTo(int cell, int next) {
            if (!isCell(cell) || !isCell(next)) {
                return NONE;
            }
            for (int direction = 0; direction < DIRECTIONS; direction++) {
                if (neighbour(cell, direction) == next) {
                    return direction;
                }
            }
            return NONE;
        }

        private int costOfMove(int direction) {
            if (direction == windDirection) {
                return Math.max(1, MOVE_COST - windForce);
            }
            if (direction == (windDirection + 2) % DIRECTIONS) {
                return MOVE_COST + windForce;
            }
            return MOVE_COST;
        }

        private int costOfRoute(Route route) {
            int sum = START_COST;
            for (int i = 1; i < route.count; i++) {
                sum += costOfMove(directionTo(route.at(i - 1), route.at(i)));
            }
            return sum;
        }
    }

    private static final class Craft {
        private int rank;
        private int homePad;
        private int homeCell;
        private int battery;
        private int charge;
        private int loudness;
        private boolean linked = true;
        private int state = LIES;
        private int cell;
        private int flight = NONE;
        private int breaches;
        private int landedAt = NONE;

        private void copyFrom(Craft other) {
            rank = other.rank;
            homePad = other.homePad;
            homeCell = other.homeCell;
            battery = other.battery;
            charge = other.charge;
            loudness = other.loudness;
            linked = other.linked;
            state = other.state;
            cell = other.cell;
            flight = other.flight;
            breaches = other.breaches;
            landedAt = other.landedAt;
        }

        private void landAt(int minute) {
            state = LIES;
            flight = NONE;
            landedAt = minute;
        }

        private void goDown() {
            state = DOWN;
            flight = NONE;
            charge = 0;
        }

        /** Into the row of home first, then along it; the same cell if it is home. */
        private int nextCellHome() {
            if (cell / SIDE != homeCell / SIDE) {
                return cell < homeCell ? cell + SIDE : cell - SIDE;
            }
            if (cell == homeCell) {
                return cell;
            }
            return cell < homeCell ? cell + 1 : cell - 1;
        }
    }

    private static final class Flight {
        private int craft;
        private int start;
        private int state;
        private final Route route = new Route();

        private void copyFrom(Flight other) {
            craft = other.craft;
            start = other.start;
            state = other.state;
            route.copyFrom(other.route);
        }

        /** Only such a flight keeps others out of its cells. */
        private boolean isAhead() {
            return state == APPROVED || state == FLYING;
        }

        private boolean isPlannedOn(int day) {
            return (isAhead() || state == DONE) && start / DAY == day;
        }

        private boolean occupiesIn(int cell, int minute) {
            for (int i = 0; i < route.count; i++) {
                int there = start + 2 * i;
                if (route.at(i) == cell && minute >= there - 1 && minute <= there + 1) {
                    return true;
                }
            }
            return false;
        }

        /** Exactly then the minutes in which the two occupy cells have one in common. */
        private boolean isCloseInTime(Route other, int otherStart) {
            return start <= other.endFrom(otherStart) + 2 && route.endFrom(start) >= otherStart - 2;
        }

        private boolean meets(Route other, int otherStart) {
            for (int i = 0; i < route.count; i++) {
                for (int k = 0; k < other.count; k++) {
                    int apart = start + 2 * i - otherStart - 2 * k;
                    if (apart >= -2 && apart <= 2 && route.at(i) == other.at(k)) {
                        return true;
                    }
                }
            }
            return false;
        }
    }

    /** All that changes as minutes go by. */
    private static final class Sky {
        private final Ground ground;
        private final Craft[] crafts = new Craft[MOST_CRAFT];
        private int craftCount;
        private final Flight[] flights = new Flight[MOST_FLIGHTS];
        private int flightCount;
        private final int[] heard = new int[CELLS];
        private int heardEver;
        private int nearCount;
        private int now;

        private Sky(Ground ground) {
            this.ground = ground;
            for (int i = 0; i < MOST_CRAFT; i++) {
                crafts[i] = new Craft();
            }
            for (int i = 0; i < MOST_FLIGHTS; i++) {
                flights[i] = new Flight();
            }
        }

        private void copyFrom(Sky other) {
            craftCount = other.craftCount;
            for (int i = 0; i < craftCount; i++) {
                crafts[i].copyFrom(other.crafts[i]);
            }
            flightCount = other.flightCount;
            for (int i = 0; i < flightCount; i++) {
                flights[i].copyFrom(other.flights[i]);
            }
            System.arraycopy(other.heard, 0, heard, 0, CELLS);
            heardEver = other.heardEver;
            nearCount = other.nearCount;
            now = other.now;
        }

        private boolean isCraft(int number) {
            return number >= 0 && number < craftCount;
        }

        private void play(int minutes) {
            for (int minute = 0; minute < minutes; minute++) {
                now++;
                if (now % DAY == 0) {
                    Arrays.fill(heard, 0);
                }
                for (int i = 0; i < flightCount; i++) {
                    startOrMissIfDue(i);
                }
                for (int i = 0; i < craftCount; i++) {
                    if (isToMove(crafts[i])) {
                        move(crafts[i]);
                    }
                }
                nearCount += pairsNear();
                for (int i = 0; i < craftCount; i++) {
                    chargeIfLying(crafts[i]);
                }
            }
        }

        private void startOrMissIfDue(int number) {
            Flight flight = flights[number];
            if (flight.state != APPROVED || flight.start != now || !isCraft(flight.craft)) {
                return;
            }
            Craft craft = crafts[flight.craft];
            boolean isThere = craft.state == LIES && craft.cell == flight.route.first();
            if (!isThere || craft.charge < START_COST || !craft.linked) {
                flight.state = MISSED;
                return;
            }
            flight.state = FLYING;
            craft.state = FLIES;
            craft.flight = number;
            craft.charge -= START_COST;
            comeIn(craft);
        }

        private boolean isToMove(Craft craft) {
            if (craft.state != FLIES || craft.flight < 0 || craft.flight >= flightCount) {
                return false;
            }
            int flown = now - flights[craft.flight].start;
            return flown >= 2 && flown % 2 == 0;
        }

        /** Along the row of its flight, or home if that is broken; it lands if it is there then. */
        private void move(Craft craft) {
            Flight flight = flights[craft.flight];
            if (flight.state == FLYING && !craft.linked) {
                flight.state = BROKEN;
            }
            boolean goesHome = flight.state == BROKEN;
            int place = (now - flight.start) / 2;
            int next = goesHome ? craft.nextCellHome() : flight.route.at(place);
            if (next != craft.cell) {
                if (!movesInto(craft, flight, next)) {
                    return;
                }
                comeIn(craft);
            }
            if (goesHome && craft.cell == craft.homeCell) {
                craft.landAt(now);
            }
            if (!goesHome && place == flight.route.count - 1) {
                craft.landAt(now);
                flight.state = DONE;
            }
        }

        /** Returns whether it moved; otherwise it is down. */
        private boolean movesInto(Craft craft, Flight flight, int next) {
            int cost = ground.costOfMove(Ground.directionTo(craft.cell, next));
            // No row leads outside the cells; if one did, no craft may stand there.
            if (!isCell(next) || cost > craft.charge) {
                craft.goDown();
                flight.state = LOST;
                return false;
            }
            craft.charge -= cost;
            craft.cell = next;
            return true;
        }

        private void comeIn(Craft craft) {
            // No craft is outside the cells, but no index is used without a look at it.
            if (!isCell(craft.cell)) {
                return;
            }
            int noise = craft.loudness * ground.houses[craft.cell];
            heard[craft.cell] += noise;
            heardEver += noise;
            if (ground.isShut(craft.cell, craft.rank, now)) {
                craft.breaches++;
            }
        }

        private int pairsNear() {
            int pairs = 0;
            for (int i = 0; i < craftCount; i++) {
                for (int k = i + 1; k < craftCount; k++) {
                    if (crafts[i].state == FLIES && crafts[k].state == FLIES && crafts[i].cell == crafts[k].cell) {
                        pairs++;
                    }
                }
            }
            return pairs;
        }

        private void chargeIfLying(Craft craft) {
            if (craft.state == LIES && craft.landedAt != now) {
                craft.charge = Math.min(craft.battery, craft.charge + CHARGE_A_MINUTE);
            }
        }

        private int flyingIn(int cell) {
            int flying = 0;
            for (int i = 0; i < craftCount; i++) {
                if (crafts[i].state == FLIES && crafts[i].cell == cell) {
                    flying++;
                }
            }
            return flying;
        }

        private int flightsIn(int state) {
            int found = 0;
            for (int i = 0; i < flightCount; i++) {
                if (flights[i].state == state) {
                    found++;
                }
            }
            return found;
        }

        private int allBreaches() {
            int sum = 0;
            for (int i = 0; i < craftCount; i++) {
                sum += crafts[i].breaches;
            }
            return sum;
        }
    }

    /** Finds the first reason against a flight. */
    private static final class Judge {
        private final Ground ground;
        private final Sky sky;
        private final int[] planned = new int[CELLS];

        private Judge(Ground ground, Sky sky) {
            this.ground = ground;
            this.sky = sky;
        }

        private int reasonAgainst(int number, Route route, int start) {
            Craft craft = sky.crafts[number];
            if (meetsTower(route)) {
                return REASON_TOWER;
            }
            if (meetsZone(craft, route, start)) {
                return REASON_ZONE;
            }
            if (meetsOthers(number, route, start)) {
                return REASON_OTHERS;
            }
            if (meetsItself(number, route, start)) {
                return REASON_SAME_CRAFT;
            }
            if (ground.costOfRoute(route) > craft.charge) {
                return REASON_CHARGE;
            }
            return isTooLoud(craft, route, start) ? REASON_NOISE : NO_REASON;
        }

        private boolean meetsTower(Route route) {
            for (int i = 0; i < route.count; i++) {
                int cell = route.at(i);
                if (isCell(cell) && ground.towers[cell]) {
                    return true;
                }
            }
            return false;
        }

        private boolean meetsZone(Craft craft, Route route, int start) {
            for (int i = 0; i < route.count; i++) {
                int there = start + 2 * i;
                for (int minute = there - 1; minute <= there + 1; minute++) {
                    if (ground.isShut(route.at(i), craft.rank, minute)) {
                        return true;
                    }
                }
            }
            return false;
        }

        private boolean meetsOthers(int number, Route route, int start) {
            for (int i = 0; i < sky.flightCount; i++) {
                Flight flight = sky.flights[i];
                if (flight.craft != number && flight.isAhead() && flight.isCloseInTime(route, start)
                        && flight.meets(route, start)) {
                    return true;
                }
            }
            return false;
        }

        private boolean meetsItself(int number, Route route, int start) {
            for (int i = 0; i < sky.flightCount; i++) {
                Flight flight = sky.flights[i];
                if (flight.craft == number && flight.isAhead() && flight.isCloseInTime(route, start)) {
                    return true;
                }
            }
            return false;
        }

        private boolean isTooLoud(Craft craft, Route route, int start) {
            planDay(start / DAY);
            plan(craft, route);
            for (int i = 0; i < route.count; i++) {
                int cell = route.at(i);
                if (isCell(cell) && planned[cell] > MOST_PLANNED) {
                    return true;
                }
            }
            return false;
        }

        private int plannedNoise(int cell, int day) {
            planDay(day);
            return planned[cell];
        }

        private void planDay(int day) {
            Arrays.fill(planned, 0);
            for (int i = 0; i < sky.flightCount; i++) {
                Flight flight = sky.flights[i];
                if (flight.isPlannedOn(day) && sky.isCraft(flight.craft)) {
                    plan(sky.crafts[flight.craft], flight.route);
                }
            }
        }

        private void plan(Craft craft, Route route) {
            for (int i = 0; i < route.count; i++) {
                int cell = route.at(i);
                if (isCell(cell)) {
                    planned[cell] += craft.loudness * ground.houses[cell];
                }
            }
        }
    }

    /** Finds the shortest and the cheapest way of a craft. */
    private static final class Search {
        private static final int FAR = 1000000;

        private final Ground ground;
        private final boolean[] open = new boolean[CELLS];
        private final int[] reached = new int[CELLS];

        private Search(Ground ground) {
            this.ground = ground;
        }

        private int fewestMoves(Craft craft, int target, int now) {
            return least(craft, target, now, false);
        }

        private int leastCharge(Craft craft, int target, int now) {
            return least(craft, target, now, true);
        }

        private int least(Craft craft, int target, int now, boolean byCharge) {
            for (int cell = 0; cell < CELLS; cell++) {
                open[cell] = !ground.towers[cell] && !ground.isShut(cell, craft.rank, now);
            }
            Arrays.fill(reached, FAR);
            if (isCell(craft.cell)) {
                reached[craft.cell] = 0;
            }
            boolean changed = true;
            // A way has fewer moves than there are cells, so no more rounds can change anything.
            for (int round = 0; round < CELLS && changed; round++) {
                changed = spreadAll(byCharge);
            }
            return reached[target] < FAR ? reached[target] : NONE;
        }

        private boolean spreadAll(boolean byCharge) {
            boolean changed = false;
            for (int cell = 0; cell < CELLS; cell++) {
                for (int direction = 0; direction < DIRECTIONS; direction++) {
                    if (reached[cell] < FAR && spread(cell, direction, byCharge)) {
                        changed = true;
                    }
                }
            }
            return changed;
        }

        private boolean spread(int cell, int direction, boolean byCharge) {
            int next = Ground.neighbour(cell, direction);
            if (!isCell(next) || !open[next]) {
                return false;
            }
            int by = reached[cell] + (byCharge ? ground.costOfMove(direction) : 1);
            if (by >= reached[next]) {
                return false;
            }
            reached[next] = by;
            return true;
        }
    }
}
