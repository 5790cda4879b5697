/** The bounds of what is told, one test for each case: part 1 of the terms, the craft of part 2, promises 1 to 11. */
public final class ToldBoundsTest extends Scene {
    private static final String CELL = "Throws IndexOutOfBoundsException if cell is not 0 to 24";

    private ToldBoundsTest() {
    }

    public static void main(String[] args) {
        Check.eachOf(ToldBoundsTest.class);
        Check.end();
    }

    // ---- promise 1: a new object

    @Says("Part 1: NOW is 0 at first")
    static void nowIsZeroAtFirst() {
        Check.same("many(0)", new LowAir().many(0), 0);
    }

    @Says("Promise 1: Creates an air without CRAFT, NOW 0.")
    static void noCraftAtFirst() {
        LowAir air = new LowAir();
        Check.same("many(3)", air.many(3), 0);
        out("ofCraft(0, 0)", () -> air.ofCraft(0, 0));
    }

    @Says("Promise 1: Creates an air without CRAFT, NOW 0.")
    static void noPadZoneFlightOrDraftAtFirst() {
        LowAir air = new LowAir();
        Check.same("pads", air.many(1), 0);
        Check.same("zones", air.many(2), 0);
        Check.same("flights", air.many(4), 0);
        Check.same("cells in the draft", air.many(5), 0);
        out("ofFlight(0, 0)", () -> air.ofFlight(0, 0));
    }

    @Says("Part 1: 0 to 9; 0 at first")
    static void noHousesAtFirst() {
        LowAir air = new LowAir();
        for (int cell = 0; cell < 25; cell++) {
            Check.same("houses of " + cell, air.ofCell(cell, 0), 0);
        }
    }

    @Says("Part 1: and a TOWER or not (not at first")
    static void noTowerAtFirst() {
        LowAir air = new LowAir();
        for (int cell = 0; cell < 25; cell++) {
            Check.same("tower of " + cell, air.ofCell(cell, 1), 0);
        }
    }

    @Says("Part 1: with a FORCE (0 to 3; 0 and 0 at first)")
    static void noWindAtFirst() {
        LowAir air = withPads(12);
        air.craft(0, 0, 100, 0);
        for (int cell : new int[] {7, 13, 17, 11}) {
            Check.same("cost to " + cell, air.cost(0, cell), 4);
        }
        Check.same("the force before the first wind", air.wind(1, 1), 0);
    }

    @Says("Promise 1: Creates an air without CRAFT, NOW 0.")
    static void objectsHaveNothingInCommon() {
        LowAir one = withOne();
        one.houses(7, 5);
        one.tower(8, true);
        one.zone(9, 0, 0, 1);
        one.draft(3);
        one.pass(7);
        Check.same("the digest of another one", new LowAir().digest(), 1274005811342519567L);
    }

    // ---- promise 2: houses

    @Says("Promise 2: " + CELL)
    static void housesOfTheFirstCell() {
        LowAir air = new LowAir();
        Check.same("houses(0, 4)", air.houses(0, 4), 0);
        Check.same("ofCell(0, 0)", air.ofCell(0, 0), 4);
    }

    @Says("Promise 2: " + CELL)
    static void housesOfTheLastCell() {
        LowAir air = new LowAir();
        Check.same("houses(24, 4)", air.houses(24, 4), 0);
        Check.same("ofCell(24, 0)", air.ofCell(24, 0), 4);
    }

    @Says("Promise 2: " + CELL)
    static void housesBelowTheFirstCell() {
        LowAir air = new LowAir();
        out("houses(-1, 4)", () -> air.houses(-1, 4));
        out("houses of the least number", () -> air.houses(LOW, 4));
    }

    @Says("Promise 2: " + CELL)
    static void housesBehindTheLastCell() {
        LowAir air = new LowAir();
        out("houses(25, 4)", () -> air.houses(25, 4));
        out("houses of the greatest number", () -> air.houses(HIGH, 4));
    }

    @Says("Promise 2: Throws IllegalArgumentException if houses is not 0 to 9")
    static void noHouses() {
        LowAir air = new LowAir();
        air.houses(7, 5);
        Check.same("houses(7, 0)", air.houses(7, 0), 5);
        Check.same("ofCell(7, 0)", air.ofCell(7, 0), 0);
    }

    @Says("Promise 2: Throws IllegalArgumentException if houses is not 0 to 9")
    static void mostHouses() {
        LowAir air = new LowAir();
        Check.same("houses(7, 9)", air.houses(7, 9), 0);
        Check.same("ofCell(7, 0)", air.ofCell(7, 0), 9);
    }

    @Says("Promise 2: Throws IllegalArgumentException if houses is not 0 to 9")
    static void fewerHousesThanNone() {
        LowAir air = new LowAir();
        argument("houses(7, -1)", () -> air.houses(7, -1));
        argument("the fewest houses", () -> air.houses(7, LOW));
    }

    @Says("Promise 2: Throws IllegalArgumentException if houses is not 0 to 9")
    static void tooManyHouses() {
        LowAir air = new LowAir();
        argument("houses(7, 10)", () -> air.houses(7, 10));
        argument("the most houses", () -> air.houses(7, HIGH));
    }

    @Says("Terms: If several exceptions apply, the one that is named first is thrown.")
    static void housesOrder() {
        LowAir air = new LowAir();
        out("houses(25, 10)", () -> air.houses(25, 10));
        out("houses(-1, -1)", () -> air.houses(-1, -1));
    }

    @Says("Promise 2: Returns that before.")
    static void housesToldTwice() {
        LowAir air = new LowAir();
        air.houses(7, 3);
        Check.same("houses(7, 3) again", air.houses(7, 3), 3);
        Check.same("houses(7, 8)", air.houses(7, 8), 3);
        Check.same("its neighbour", air.ofCell(8, 0), 0);
    }

    // ---- promise 3: tower

    @Says("Promise 3: " + CELL)
    static void towerOnTheFirstCell() {
        LowAir air = new LowAir();
        Check.same("tower(0, true)", air.tower(0, true), false);
        Check.same("ofCell(0, 1)", air.ofCell(0, 1), 1);
    }

    @Says("Promise 3: " + CELL)
    static void towerOnTheLastCell() {
        LowAir air = new LowAir();
        Check.same("tower(24, true)", air.tower(24, true), false);
        Check.same("ofCell(24, 1)", air.ofCell(24, 1), 1);
    }

    @Says("Promise 3: " + CELL)
    static void towerBelowTheFirstCell() {
        LowAir air = new LowAir();
        out("tower(-1, true)", () -> air.tower(-1, true) ? 1 : 0);
        out("tower(-1, false)", () -> air.tower(-1, false) ? 1 : 0);
    }

    @Says("Promise 3: " + CELL)
    static void towerBehindTheLastCell() {
        LowAir air = new LowAir();
        out("tower(25, true)", () -> air.tower(25, true) ? 1 : 0);
        out("tower(25, false)", () -> air.tower(25, false) ? 1 : 0);
    }

    @Says("Promise 3: Throws IllegalStateException if there is a PAD")
    static void towerOnAPad() {
        LowAir air = withCorners();
        state("tower(0, true)", () -> air.tower(0, true) ? 1 : 0);
        state("tower(24, true)", () -> air.tower(24, true) ? 1 : 0);
    }

    @Says("Promise 3: Throws IllegalStateException if there is a PAD")
    static void towerTakenFromAPad() {
        LowAir air = withCorners();
        state("tower(0, false)", () -> air.tower(0, false) ? 1 : 0);
    }

    @Says("Promise 3: Throws IllegalStateException if there is a PAD")
    static void towerBesideAPad() {
        LowAir air = withCorners();
        Check.same("tower(1, true)", air.tower(1, true), false);
        Check.same("ofCell(1, 1)", air.ofCell(1, 1), 1);
    }

    @Says("Promise 3: Returns whether there was.")
    static void towerBuiltTwice() {
        LowAir air = new LowAir();
        air.tower(7, true);
        Check.same("tower(7, true) again", air.tower(7, true), true);
        Check.same("ofCell(7, 1)", air.ofCell(7, 1), 1);
    }

    @Says("Promise 3: Builds a TOWER, or takes it away.")
    static void towerTakenAway() {
        LowAir air = new LowAir();
        air.tower(7, true);
        Check.same("tower(7, false)", air.tower(7, false), true);
        Check.same("ofCell(7, 1)", air.ofCell(7, 1), 0);
    }

    @Says("Promise 3: Builds a TOWER, or takes it away.")
    static void towerTakenAwayWhereNoneIs() {
        LowAir air = new LowAir();
        Check.same("tower(7, false)", air.tower(7, false), false);
        Check.same("ofCell(7, 1)", air.ofCell(7, 1), 0);
    }

    // ---- promise 4: pad

    @Says("Promise 4: " + CELL)
    static void padOnTheFirstCell() {
        LowAir air = new LowAir();
        Check.same("pad(0)", air.pad(0), 0);
        Check.same("ofCell(0, 2)", air.ofCell(0, 2), 0);
    }

    @Says("Promise 4: " + CELL)
    static void padOnTheLastCell() {
        LowAir air = new LowAir();
        Check.same("pad(24)", air.pad(24), 0);
        Check.same("ofCell(24, 2)", air.ofCell(24, 2), 0);
    }

    @Says("Promise 4: " + CELL)
    static void padBelowTheFirstCell() {
        LowAir air = new LowAir();
        out("pad(-1)", () -> air.pad(-1));
        out("pad of the least number", () -> air.pad(LOW));
    }

    @Says("Promise 4: " + CELL)
    static void padBehindTheLastCell() {
        LowAir air = new LowAir();
        out("pad(25)", () -> air.pad(25));
        out("pad of the greatest number", () -> air.pad(HIGH));
    }

    @Says("Promise 4: Throws IllegalArgumentException if there is a TOWER, or a PAD")
    static void padOnATower() {
        LowAir air = new LowAir();
        air.tower(7, true);
        argument("pad(7)", () -> air.pad(7));
    }

    @Says("Promise 4: Throws IllegalArgumentException if there is a TOWER, or a PAD")
    static void padOnAPad() {
        LowAir air = withPads(7);
        argument("pad(7)", () -> air.pad(7));
    }

    @Says("Promise 4: Throws IllegalArgumentException if there is a TOWER, or a PAD")
    static void padWhereATowerWasTakenAway() {
        LowAir air = new LowAir();
        air.tower(7, true);
        air.tower(7, false);
        Check.same("pad(7)", air.pad(7), 0);
    }

    @Says("Promise 4: Throws IllegalStateException if there were 5")
    static void fivePads() {
        LowAir air = withPads(3, 7, 11, 15);
        Check.same("the fifth pad", air.pad(19), 4);
        Check.same("many(1)", air.many(1), 5);
    }

    @Says("Promise 4: Throws IllegalStateException if there were 5")
    static void aSixthPad() {
        LowAir air = withPads(3, 7, 11, 15, 19);
        state("pad(23)", () -> air.pad(23));
        Check.same("many(1)", air.many(1), 5);
        Check.same("ofCell(23, 2)", air.ofCell(23, 2), NONE);
    }

    @Says("Terms: If several exceptions apply, the one that is named first is thrown.")
    static void padOrder() {
        LowAir air = withPads(3, 7, 11, 15, 19);
        air.tower(20, true);
        out("a sixth pad nowhere", () -> air.pad(25));
        argument("a sixth pad on a pad", () -> air.pad(3));
        argument("a sixth pad on a tower", () -> air.pad(20));
    }

    // ---- promise 5: zone

    @Says("Promise 5: " + CELL)
    static void zoneOfTheFirstCell() {
        LowAir air = withPads(1);
        air.craft(0, 0, 10, 0);
        Check.same("zone(0, 0, 0, 1)", air.zone(0, 0, 0, 1), 0);
        Check.same("way to it", air.way(0, 0), NONE);
    }

    @Says("Promise 5: " + CELL)
    static void zoneOfTheLastCell() {
        LowAir air = withPads(23);
        air.craft(0, 0, 10, 0);
        Check.same("zone(24, 0, 0, 1)", air.zone(24, 0, 0, 1), 0);
        Check.same("way to it", air.way(0, 24), NONE);
    }

    @Says("Promise 5: " + CELL)
    static void zoneBelowTheFirstCell() {
        LowAir air = new LowAir();
        out("zone(-1, 0, 0, 1)", () -> air.zone(-1, 0, 0, 1));
        out("zone of the least number", () -> air.zone(LOW, 0, 0, 1));
    }

    @Says("Promise 5: " + CELL)
    static void zoneBehindTheLastCell() {
        LowAir air = new LowAir();
        out("zone(25, 0, 0, 1)", () -> air.zone(25, 0, 0, 1));
        out("zone of the greatest number", () -> air.zone(HIGH, 0, 0, 1));
    }

    @Says("Promise 5: Throws IllegalArgumentException if from or to is not 0 to 23, or least not 1 to 4")
    static void zoneFromTheFirstAndTheLastHour() {
        LowAir air = new LowAir();
        Check.same("zone(7, 0, 5, 1)", air.zone(7, 0, 5, 1), 0);
        Check.same("zone(7, 23, 5, 1)", air.zone(7, 23, 5, 1), 1);
    }

    @Says("Promise 5: Throws IllegalArgumentException if from or to is not 0 to 23, or least not 1 to 4")
    static void zoneFromAnHourThatIsNone() {
        LowAir air = new LowAir();
        argument("zone(7, -1, 5, 1)", () -> air.zone(7, -1, 5, 1));
        argument("zone(7, 24, 5, 1)", () -> air.zone(7, 24, 5, 1));
        argument("from the least number", () -> air.zone(7, LOW, 5, 1));
        argument("from the greatest number", () -> air.zone(7, HIGH, 5, 1));
    }

    @Says("Promise 5: Throws IllegalArgumentException if from or to is not 0 to 23, or least not 1 to 4")
    static void zoneToTheFirstAndTheLastHour() {
        LowAir air = new LowAir();
        Check.same("zone(7, 5, 0, 1)", air.zone(7, 5, 0, 1), 0);
        Check.same("zone(7, 5, 23, 1)", air.zone(7, 5, 23, 1), 1);
    }

    @Says("Promise 5: Throws IllegalArgumentException if from or to is not 0 to 23, or least not 1 to 4")
    static void zoneToAnHourThatIsNone() {
        LowAir air = new LowAir();
        argument("zone(7, 5, -1, 1)", () -> air.zone(7, 5, -1, 1));
        argument("zone(7, 5, 24, 1)", () -> air.zone(7, 5, 24, 1));
        argument("to the least number", () -> air.zone(7, 5, LOW, 1));
        argument("to the greatest number", () -> air.zone(7, 5, HIGH, 1));
    }

    @Says("Promise 5: Throws IllegalArgumentException if from or to is not 0 to 23, or least not 1 to 4")
    static void zoneOfTheSmallestAndTheGreatestLeast() {
        LowAir air = new LowAir();
        Check.same("zone(7, 0, 5, 1)", air.zone(7, 0, 5, 1), 0);
        Check.same("zone(7, 0, 5, 4)", air.zone(7, 0, 5, 4), 1);
    }

    @Says("Promise 5: Throws IllegalArgumentException if from or to is not 0 to 23, or least not 1 to 4")
    static void zoneOfALeastThatIsNone() {
        LowAir air = new LowAir();
        argument("zone(7, 0, 5, 0)", () -> air.zone(7, 0, 5, 0));
        argument("zone(7, 0, 5, 5)", () -> air.zone(7, 0, 5, 5));
        argument("the least least", () -> air.zone(7, 0, 5, LOW));
        argument("the greatest least", () -> air.zone(7, 0, 5, HIGH));
    }

    @Says("Promise 5: Throws IllegalStateException if there were 6")
    static void sixZones() {
        LowAir air = withSixZones();
        Check.same("many(2)", air.many(2), 6);
        air.pad(8);
        air.craft(0, 0, 10, 0);
        Check.same("the sixth one shuts", air.way(0, 13), NONE);
    }

    @Says("Promise 5: Throws IllegalStateException if there were 6")
    static void aSeventhZone() {
        LowAir air = withSixZones();
        state("zone(20, 0, 0, 1)", () -> air.zone(20, 0, 0, 1));
        Check.same("many(2)", air.many(2), 6);
    }

    @Says("Terms: If several exceptions apply, the one that is named first is thrown.")
    static void zoneOrder() {
        LowAir air = withSixZones();
        out("a seventh one nowhere, all wrong", () -> air.zone(25, 24, 24, 5));
        out("a seventh one nowhere", () -> air.zone(-1, 0, 0, 1));
        argument("a seventh one from hour 24", () -> air.zone(20, 24, 0, 1));
        argument("a seventh one to hour 24", () -> air.zone(20, 0, 24, 1));
        argument("a seventh one of least 5", () -> air.zone(20, 0, 0, 5));
        LowAir other = new LowAir();
        out("the first one nowhere, all wrong", () -> other.zone(25, 24, 24, 5));
    }

    @Says("Part 1: shut from an HOUR up to one before another HOUR")
    static void zoneFromItsFirstMinute() {
        LowAir air = withZoneBeside(1, 3, 4);
        passTo(air, 59);
        Check.same("way in the minute 59", air.way(0, 7), 1);
        passTo(air, 60);
        Check.same("way in the minute 60", air.way(0, 7), NONE);
    }

    @Says("Part 1: shut from an HOUR up to one before another HOUR")
    static void zoneUpToItsLastMinute() {
        LowAir air = withZoneBeside(1, 3, 4);
        passTo(air, 179);
        Check.same("way in the minute 179", air.way(0, 7), NONE);
        passTo(air, 180);
        Check.same("way in the minute 180", air.way(0, 7), 1);
    }

    @Says("Part 1: over midnight, if the first one is greater")
    static void zoneOverMidnightBegins() {
        LowAir air = withZoneBeside(22, 2, 4);
        passTo(air, 22 * 60 - 1);
        Check.same("way in the last minute ahead of it", air.way(0, 7), 1);
        passTo(air, 22 * 60);
        Check.same("way in its first minute", air.way(0, 7), NONE);
    }

    @Says("Part 1: over midnight, if the first one is greater")
    static void zoneOverMidnightGoesOn() {
        LowAir air = withZoneBeside(22, 2, 4);
        passTo(air, 1439);
        Check.same("way in the last minute of the day", air.way(0, 7), NONE);
        passTo(air, 1440);
        Check.same("way in the first minute of the next day", air.way(0, 7), NONE);
    }

    @Says("Part 1: over midnight, if the first one is greater")
    static void zoneOverMidnightEnds() {
        LowAir air = withZoneBeside(22, 2, 4);
        Check.same("way at minute 0", air.way(0, 7), NONE);
        passTo(air, 119);
        Check.same("way in its last minute", air.way(0, 7), NONE);
        passTo(air, 120);
        Check.same("way in the first minute behind it", air.way(0, 7), 1);
        passTo(air, 1440 + 119);
        Check.same("way in its last minute on the next day", air.way(0, 7), NONE);
        passTo(air, 1440 + 120);
        Check.same("way behind it on the next day", air.way(0, 7), 1);
    }

    @Says("Part 1: always, if they are the same")
    static void zoneThatIsAlwaysShut() {
        LowAir air = withZoneBeside(5, 5, 4);
        for (int minute : new int[] {0, 1, 299, 300, 301, 359, 360, 1439, 1440, 5000}) {
            passTo(air, minute);
            Check.same("way in the minute " + minute, air.way(0, 7), NONE);
        }
    }

    @Says("Part 1: always, if they are the same")
    static void zoneThatIsAlwaysShutFromTheFirstOrTheLastHour() {
        for (int hour : new int[] {0, 23}) {
            LowAir air = withZoneBeside(hour, hour, 4);
            for (int minute : new int[] {0, 59, 60, 1379, 1380, 1439, 1440}) {
                passTo(air, minute);
                Check.same("from " + hour + ", way in the minute " + minute, air.way(0, 7), NONE);
            }
        }
    }

    @Says("Part 1: shut from an HOUR up to one before another HOUR")
    static void zoneUpToTheLastHour() {
        LowAir air = withZoneBeside(0, 23, 4);
        passTo(air, 23 * 60 - 1);
        Check.same("way in the last minute of hour 22", air.way(0, 7), NONE);
        passTo(air, 23 * 60);
        Check.same("way in the first minute of hour 23", air.way(0, 7), 1);
        passTo(air, 1439);
        Check.same("way in the last minute of hour 23", air.way(0, 7), 1);
        passTo(air, 1440);
        Check.same("way in the first minute of the next day", air.way(0, 7), NONE);
    }

    @Says("Part 1: over midnight, if the first one is greater")
    static void zoneOfTheLastHourAlone() {
        LowAir air = withZoneBeside(23, 0, 4);
        Check.same("way at minute 0", air.way(0, 7), 1);
        passTo(air, 1379);
        Check.same("way in the last minute of hour 22", air.way(0, 7), 1);
        passTo(air, 1380);
        Check.same("way in the first minute of hour 23", air.way(0, 7), NONE);
        passTo(air, 1439);
        Check.same("way in the last minute of hour 23", air.way(0, 7), NONE);
        passTo(air, 1440);
        Check.same("way in the first minute of the next day", air.way(0, 7), 1);
    }

    @Says("Part 1: The HOUR is NOW / 60 modulo 24")
    static void zoneOnAnotherDay() {
        LowAir air = withZoneBeside(1, 3, 4);
        passTo(air, 2880 + 59);
        Check.same("way at 59 of the third day", air.way(0, 7), 1);
        passTo(air, 2880 + 60);
        Check.same("way at 60 of the third day", air.way(0, 7), NONE);
        passTo(air, 2880 + 179);
        Check.same("way at 179 of the third day", air.way(0, 7), NONE);
        passTo(air, 2880 + 180);
        Check.same("way at 180 of the third day", air.way(0, 7), 1);
    }

    @Says("Part 1: for all CRAFT of a CLASS below its LEAST (0 to 3; LEAST 1 to 4)")
    static void zoneOfTheSmallestLeast() {
        LowAir air = withZoneBeside(0, 0, 1);
        Check.same("class 0", air.way(0, 7), NONE);
        Check.same("class 1", air.way(1, 7), 1);
    }

    @Says("Part 1: for all CRAFT of a CLASS below its LEAST (0 to 3; LEAST 1 to 4)")
    static void zoneOfAMiddlingLeast() {
        LowAir air = withZoneBeside(0, 0, 3);
        Check.same("class 2", air.way(2, 7), NONE);
        Check.same("class 3", air.way(3, 7), 1);
    }

    @Says("Part 1: for all CRAFT of a CLASS below its LEAST (0 to 3; LEAST 1 to 4)")
    static void zoneOfTheGreatestLeast() {
        LowAir air = withZoneBeside(0, 0, 4);
        Check.same("class 0", air.way(0, 7), NONE);
        Check.same("class 3", air.way(3, 7), NONE);
    }

    @Says("Part 1: each of one CELL")
    static void zoneOfItsOwnCellAlone() {
        LowAir air = withPads(12);
        air.craft(0, 0, 10, 0);
        air.zone(7, 0, 0, 1);
        Check.same("way beside it", air.way(0, 6), 2);
        Check.same("way behind it", air.way(0, 2), 4);
    }

    private static LowAir withSixZones() {
        LowAir air = new LowAir();
        int[] cells = {7, 7, 0, 24, 12, 13};
        for (int i = 0; i < 6; i++) {
            Check.same("zone " + i, air.zone(cells[i], 0, 0, 1), i);
        }
        return air;
    }

    /** Craft 0 to 3, of the classes 0 to 3, lie in 12 between towers; the zone is in 7, the only way out. */
    private static LowAir withZoneBeside(int from, int to, int least) {
        LowAir air = withPads(12);
        for (int cell : new int[] {11, 13, 17}) {
            air.tower(cell, true);
        }
        for (int rank = 0; rank <= 3; rank++) {
            air.craft(0, rank, 10, 0);
        }
        air.zone(7, from, to, least);
        return air;
    }

    // ---- promise 6: wind

    @Says("Promise 6: Throws IllegalArgumentException if one is not 0 to 3")
    static void windToTheFirstAndTheLastDirection() {
        LowAir air = withPads(12);
        air.craft(0, 0, 10, 0);
        air.wind(0, 1);
        Check.same("to the north with it", air.cost(0, 7), 3);
        air.wind(3, 1);
        Check.same("to the west with it", air.cost(0, 11), 3);
    }

    @Says("Promise 6: Throws IllegalArgumentException if one is not 0 to 3")
    static void windToNoDirection() {
        LowAir air = new LowAir();
        argument("wind(-1, 1)", () -> air.wind(-1, 1));
        argument("wind(4, 1)", () -> air.wind(4, 1));
        argument("to the least number", () -> air.wind(LOW, 1));
        argument("to the greatest number", () -> air.wind(HIGH, 1));
    }

    @Says("Promise 6: Throws IllegalArgumentException if one is not 0 to 3")
    static void windOfTheSmallestAndTheGreatestForce() {
        LowAir air = new LowAir();
        Check.same("wind(1, 3)", air.wind(1, 3), 0);
        Check.same("wind(1, 0)", air.wind(1, 0), 3);
        Check.same("wind(1, 1)", air.wind(1, 1), 0);
    }

    @Says("Promise 6: Throws IllegalArgumentException if one is not 0 to 3")
    static void windOfNoForce() {
        LowAir air = new LowAir();
        argument("wind(1, -1)", () -> air.wind(1, -1));
        argument("wind(1, 4)", () -> air.wind(1, 4));
        argument("of the least force", () -> air.wind(1, LOW));
        argument("of the greatest force", () -> air.wind(1, HIGH));
    }

    @Says("Promise 6: Throws IllegalArgumentException if one is not 0 to 3")
    static void windWithBothWrong() {
        LowAir air = new LowAir();
        argument("wind(4, 4)", () -> air.wind(4, 4));
        argument("wind(-1, -1)", () -> air.wind(-1, -1));
    }

    @Says("Part 1: 0 NORTH: a ROW less, 1 EAST: a COLUMN more, 2 SOUTH, 3 WEST")
    static void windToEachDirection() {
        int[] to = {7, 13, 17, 11};
        for (int direction = 0; direction < 4; direction++) {
            LowAir air = withPads(12);
            air.craft(0, 0, 10, 0);
            air.wind(direction, 2);
            for (int i = 0; i < 4; i++) {
                int due = i == direction ? 2 : i == (direction + 2) % 4 ? 6 : 4;
                Check.same("wind to " + direction + ", cost to " + to[i], air.cost(0, to[i]), due);
            }
        }
    }

    @Says("Part 2: FORCE less, if it is in that of the WIND (1 at least)")
    static void moveWithEachForce() {
        int[] due = {4, 3, 2, 1};
        for (int force = 0; force <= 3; force++) {
            LowAir air = withPads(12);
            air.craft(0, 0, 10, 0);
            air.wind(1, force);
            Check.same("cost with force " + force, air.cost(0, 13), due[force]);
        }
    }

    @Says("Part 2: FORCE more, if that is in the DIRECTION that is opposite to the one of the WIND")
    static void moveAgainstEachForce() {
        int[] due = {4, 5, 6, 7};
        for (int force = 0; force <= 3; force++) {
            LowAir air = withPads(12);
            air.craft(0, 0, 10, 0);
            air.wind(1, force);
            Check.same("cost against force " + force, air.cost(0, 11), due[force]);
        }
    }

    @Says("Part 2: A MOVE from a CELL into a NEIGHBOUR costs 4 of CHARGE")
    static void moveAcrossEachForce() {
        for (int force = 0; force <= 3; force++) {
            LowAir air = withPads(12);
            air.craft(0, 0, 10, 0);
            air.wind(1, force);
            Check.same("cost across force " + force, air.cost(0, 7), 4);
            Check.same("cost across force " + force, air.cost(0, 17), 4);
        }
    }

    // ---- promise 7: craft

    @Says("Promise 7: Throws IndexOutOfBoundsException if there is no such PAD")
    static void craftWithoutAnyPad() {
        LowAir air = new LowAir();
        out("craft(0, 0, 10, 0)", () -> air.craft(0, 0, 10, 0));
    }

    @Says("Promise 7: Throws IndexOutOfBoundsException if there is no such PAD")
    static void craftOfTheFirstPad() {
        LowAir air = withPads(3, 7, 11, 15, 19);
        Check.same("craft(0, 0, 10, 0)", air.craft(0, 0, 10, 0), 0);
        craftIs(air, 0, LIES, 3, 10);
        Check.same("its home", air.ofCraft(0, 1), 0);
    }

    @Says("Promise 7: Throws IndexOutOfBoundsException if there is no such PAD")
    static void craftOfTheLastPad() {
        LowAir air = withPads(3, 7, 11, 15, 19);
        Check.same("craft(4, 0, 10, 0)", air.craft(4, 0, 10, 0), 0);
        craftIs(air, 0, LIES, 19, 10);
        Check.same("its home", air.ofCraft(0, 1), 4);
    }

    @Says("Promise 7: Throws IndexOutOfBoundsException if there is no such PAD")
    static void craftBelowTheFirstPad() {
        LowAir air = withCorners();
        out("craft(-1, 0, 10, 0)", () -> air.craft(-1, 0, 10, 0));
        out("of the least pad", () -> air.craft(LOW, 0, 10, 0));
    }

    @Says("Promise 7: Throws IndexOutOfBoundsException if there is no such PAD")
    static void craftBehindTheLastPad() {
        LowAir air = withCorners();
        out("craft(4, 0, 10, 0)", () -> air.craft(4, 0, 10, 0));
        out("of the greatest pad", () -> air.craft(HIGH, 0, 10, 0));
        LowAir full = withPads(3, 7, 11, 15, 19);
        out("craft(5, 0, 10, 0)", () -> full.craft(5, 0, 10, 0));
    }

    @Says("Promise 7: rank is not 0 to 3, battery not 10 to 200, or loudness not 0 to 9")
    static void craftOfTheLowestAndTheHighestClass() {
        LowAir air = withCorners();
        air.craft(0, 0, 10, 0);
        air.craft(0, 3, 10, 0);
        Check.same("ofCraft(0, 0)", air.ofCraft(0, 0), 0);
        Check.same("ofCraft(1, 0)", air.ofCraft(1, 0), 3);
    }

    @Says("Promise 7: rank is not 0 to 3, battery not 10 to 200, or loudness not 0 to 9")
    static void craftOfNoClass() {
        LowAir air = withCorners();
        argument("craft(0, -1, 10, 0)", () -> air.craft(0, -1, 10, 0));
        argument("craft(0, 4, 10, 0)", () -> air.craft(0, 4, 10, 0));
        argument("of the least class", () -> air.craft(0, LOW, 10, 0));
        argument("of the greatest class", () -> air.craft(0, HIGH, 10, 0));
    }

    @Says("Promise 7: rank is not 0 to 3, battery not 10 to 200, or loudness not 0 to 9")
    static void craftOfTheSmallestBattery() {
        LowAir air = withCorners();
        air.craft(0, 0, 10, 0);
        Check.same("its battery", air.ofCraft(0, 2), 10);
        argument("craft(0, 0, 9, 0)", () -> air.craft(0, 0, 9, 0));
        argument("craft(0, 0, 0, 0)", () -> air.craft(0, 0, 0, 0));
        argument("of the least battery", () -> air.craft(0, 0, LOW, 0));
    }

    @Says("Promise 7: rank is not 0 to 3, battery not 10 to 200, or loudness not 0 to 9")
    static void craftOfTheGreatestBattery() {
        LowAir air = withCorners();
        air.craft(0, 0, 200, 0);
        Check.same("its battery", air.ofCraft(0, 2), 200);
        argument("craft(0, 0, 201, 0)", () -> air.craft(0, 0, 201, 0));
        argument("of the greatest battery", () -> air.craft(0, 0, HIGH, 0));
    }

    @Says("Promise 7: rank is not 0 to 3, battery not 10 to 200, or loudness not 0 to 9")
    static void craftOfTheLeastAndTheMostLoudness() {
        LowAir air = withCorners();
        air.craft(0, 0, 10, 0);
        air.craft(0, 0, 10, 9);
        Check.same("ofCraft(0, 4)", air.ofCraft(0, 4), 0);
        Check.same("ofCraft(1, 4)", air.ofCraft(1, 4), 9);
    }

    @Says("Promise 7: rank is not 0 to 3, battery not 10 to 200, or loudness not 0 to 9")
    static void craftOfNoLoudness() {
        LowAir air = withCorners();
        argument("craft(0, 0, 10, -1)", () -> air.craft(0, 0, 10, -1));
        argument("craft(0, 0, 10, 10)", () -> air.craft(0, 0, 10, 10));
        argument("of the least loudness", () -> air.craft(0, 0, 10, LOW));
        argument("of the greatest loudness", () -> air.craft(0, 0, 10, HIGH));
    }

    @Says("Promise 7: Throws IllegalStateException if there were 6")
    static void sixCraft() {
        LowAir air = withSixCraft();
        Check.same("many(3)", air.many(3), 6);
        craftIs(air, 5, LIES, 4, 15);
    }

    @Says("Promise 7: Throws IllegalStateException if there were 6")
    static void aSeventhCraft() {
        LowAir air = withSixCraft();
        state("craft(0, 0, 10, 0)", () -> air.craft(0, 0, 10, 0));
        Check.same("many(3)", air.many(3), 6);
        out("ofCraft(6, 0)", () -> air.ofCraft(6, 0));
    }

    @Says("Terms: If several exceptions apply, the one that is named first is thrown.")
    static void craftOrder() {
        LowAir air = withSixCraft();
        out("a seventh one nowhere, all wrong", () -> air.craft(4, 4, 9, 10));
        out("a seventh one nowhere", () -> air.craft(4, 0, 10, 0));
        argument("a seventh one of class 4", () -> air.craft(0, 4, 10, 0));
        argument("a seventh one of battery 201", () -> air.craft(0, 0, 201, 0));
        argument("a seventh one of loudness 10", () -> air.craft(0, 0, 10, 10));
        LowAir other = new LowAir();
        out("the first one without a pad, all wrong", () -> other.craft(0, -1, 9, -1));
    }

    @Says("Part 2: a CHARGE (as much as the BATTERY at first)")
    static void craftWithAFullBatteryAtFirst() {
        LowAir air = withCorners();
        air.craft(0, 0, 10, 0);
        air.craft(0, 0, 200, 0);
        Check.same("charge of the smallest", air.ofCraft(0, 3), 10);
        Check.same("charge of the greatest", air.ofCraft(1, 3), 200);
    }

    @Says("Part 2: its LINK or not (with it at first)")
    static void craftWithItsLinkAtFirst() {
        LowAir air = withOne();
        Check.same("ofCraft(0, 5)", air.ofCraft(0, 5), 1);
    }

    @Says("Part 2: One lies on a PAD (its home at first), flies, or is DOWN (in a CELL).")
    static void craftAtHomeAtFirst() {
        LowAir air = withCorners();
        air.craft(3, 0, 10, 0);
        craftIs(air, 0, LIES, 24, 10);
        Check.same("its flight", air.ofCraft(0, 8), NONE);
        Check.same("its breaches", air.ofCraft(0, 9), 0);
    }

    @Says("Part 2: One lies on a PAD (its home at first), flies, or is DOWN (in a CELL).")
    static void severalCraftOnOnePad() {
        LowAir air = withCorners();
        for (int i = 0; i < 6; i++) {
            Check.same("craft " + i, air.craft(2, 0, 10, 0), i);
            Check.same("its cell", air.ofCraft(i, 7), 20);
        }
    }

    private static LowAir withSixCraft() {
        LowAir air = withCorners();
        for (int i = 0; i < 6; i++) {
            Check.same("craft " + i, air.craft(i % 4, i % 4, 10 + i, i), i);
        }
        return air;
    }

    // ---- promise 8: link

    @Says("Promise 8: Throws IndexOutOfBoundsException if there is no such CRAFT")
    static void linkWithoutAnyCraft() {
        LowAir air = withCorners();
        out("link(0, true)", () -> air.link(0, true) ? 1 : 0);
    }

    @Says("Promise 8: Throws IndexOutOfBoundsException if there is no such CRAFT")
    static void linkOfTheFirstCraft() {
        LowAir air = withSixCraft();
        Check.same("link(0, false)", air.link(0, false), true);
        Check.same("ofCraft(0, 5)", air.ofCraft(0, 5), 0);
        Check.same("that of the next one", air.ofCraft(1, 5), 1);
    }

    @Says("Promise 8: Throws IndexOutOfBoundsException if there is no such CRAFT")
    static void linkOfTheLastCraft() {
        LowAir air = withSixCraft();
        Check.same("link(5, false)", air.link(5, false), true);
        Check.same("ofCraft(5, 5)", air.ofCraft(5, 5), 0);
        Check.same("that of the one ahead of it", air.ofCraft(4, 5), 1);
    }

    @Says("Promise 8: Throws IndexOutOfBoundsException if there is no such CRAFT")
    static void linkBelowTheFirstCraft() {
        LowAir air = withOne();
        out("link(-1, false)", () -> air.link(-1, false) ? 1 : 0);
        out("link of the least number", () -> air.link(LOW, false) ? 1 : 0);
    }

    @Says("Promise 8: Throws IndexOutOfBoundsException if there is no such CRAFT")
    static void linkBehindTheLastCraft() {
        LowAir air = withOne();
        out("link(1, false)", () -> air.link(1, false) ? 1 : 0);
        out("link of the greatest number", () -> air.link(HIGH, false) ? 1 : 0);
        LowAir full = withSixCraft();
        out("link(6, false)", () -> full.link(6, false) ? 1 : 0);
    }

    @Says("Promise 8: Returns whether it had.")
    static void linkToldTwice() {
        LowAir air = withOne();
        Check.same("link(0, true)", air.link(0, true), true);
        Check.same("link(0, false)", air.link(0, false), true);
        Check.same("link(0, false) again", air.link(0, false), false);
        Check.same("link(0, true)", air.link(0, true), false);
        Check.same("ofCraft(0, 5)", air.ofCraft(0, 5), 1);
    }

    // ---- promise 9: fetch

    @Says("Promise 9: Throws IndexOutOfBoundsException if there is no such CRAFT")
    static void fetchWithoutAnyCraft() {
        LowAir air = withCorners();
        out("fetch(0)", () -> air.fetch(0));
    }

    @Says("Promise 9: Throws IndexOutOfBoundsException if there is no such CRAFT")
    static void fetchBelowTheFirstCraft() {
        LowAir air = withOneDown();
        out("fetch(-1)", () -> air.fetch(-1));
        out("fetch of the least number", () -> air.fetch(LOW));
    }

    @Says("Promise 9: Throws IndexOutOfBoundsException if there is no such CRAFT")
    static void fetchBehindTheLastCraft() {
        LowAir air = withOneDown();
        out("fetch(1)", () -> air.fetch(1));
        out("fetch of the greatest number", () -> air.fetch(HIGH));
    }

    @Says("Promise 9: Throws IndexOutOfBoundsException if there is no such CRAFT")
    static void fetchOfTheLastCraft() {
        LowAir air = withSixCraft();
        // Craft 5 has 15 for a start and a move of 7; 6 are left for its way back, that is for 7 as well.
        Check.same("ask", ask(air, 5, 1, 4, 9, 4), 0);
        air.wind(0, 3);
        air.pass(3);
        air.wind(2, 3);
        air.pass(2);
        craftIs(air, 5, DOWN, 9, 0);
        Check.same("fetch(5)", air.fetch(5), 9);
        craftIs(air, 5, LIES, 4, 0);
        out("fetch(6)", () -> air.fetch(6));
    }

    @Says("Promise 9: Throws IllegalStateException if it is not DOWN")
    static void fetchOfOneThatLies() {
        LowAir air = withOne();
        state("fetch(0)", () -> air.fetch(0));
    }

    @Says("Promise 9: Throws IllegalStateException if it is not DOWN")
    static void fetchOfOneThatFlies() {
        LowAir air = withOne();
        ask(air, 0, 1, 0, 1, 0);
        air.pass(1);
        state("fetch(0)", () -> air.fetch(0));
    }

    @Says("Promise 9: Fetches a CRAFT that is DOWN: it lies on its home PAD.")
    static void fetchOfOneThatIsDown() {
        LowAir air = withOneDown();
        Check.same("fetch(0)", air.fetch(0), 2);
        craftIs(air, 0, LIES, 0, 0);
        Check.same("its flight", air.ofCraft(0, 8), NONE);
    }

    @Says("Promise 9: Throws IllegalStateException if it is not DOWN")
    static void fetchTwice() {
        LowAir air = withOneDown();
        air.fetch(0);
        state("fetch(0) again", () -> air.fetch(0));
    }

    @Says("Promise 9: Fetches a CRAFT that is DOWN: it lies on its home PAD.")
    static void fetchOfOneThatIsDownAtHome() {
        LowAir air = withOne(10);
        ask(air, 0, 1, 0, 1, 0);
        ask(air, 0, 8, 0, 1, 0);
        // It lands at 5 with nothing left, starts again at 8 with 6, and has 4 for a move of 5.
        passTo(air, 8);
        air.wind(3, 1);
        air.pass(2);
        craftIs(air, 0, DOWN, 0, 0);
        Check.same("fetch(0)", air.fetch(0), 0);
        craftIs(air, 0, LIES, 0, 0);
    }

    /** It is down in 2 at minute 7: a start, two moves for 7, and 4 of 20 are left. */
    private static LowAir withOneDown() {
        LowAir air = withOne(20);
        ask(air, 0, 1, 0, 1, 2, 3, 4);
        air.wind(3, 3);
        air.pass(7);
        craftIs(air, 0, DOWN, 2, 0);
        return air;
    }

    // ---- promise 10: draft

    @Says("Promise 10: Throws IndexOutOfBoundsException if cell is not 0 to 24")
    static void draftOfTheFirstAndTheLastCell() {
        LowAir air = new LowAir();
        Check.same("draft(0)", air.draft(0), 1);
        Check.same("draft(24)", air.draft(24), 2);
    }

    @Says("Promise 10: Throws IndexOutOfBoundsException if cell is not 0 to 24")
    static void draftOfNoCell() {
        LowAir air = new LowAir();
        out("draft(-1)", () -> air.draft(-1));
        out("draft(25)", () -> air.draft(25));
        out("draft of the least number", () -> air.draft(LOW));
        out("draft of the greatest number", () -> air.draft(HIGH));
        Check.same("many(5)", air.many(5), 0);
    }

    @Says("Promise 10: Throws IllegalStateException if it has 10")
    static void draftOfTenCells() {
        LowAir air = new LowAir();
        for (int i = 1; i <= 10; i++) {
            Check.same("draft(" + i + ")", air.draft(i), i);
        }
        Check.same("many(5)", air.many(5), 10);
    }

    @Says("Promise 10: Throws IllegalStateException if it has 10")
    static void draftOfAnEleventhCell() {
        LowAir air = withFullDraft();
        state("draft(0)", () -> air.draft(0));
        Check.same("many(5)", air.many(5), 10);
    }

    @Says("Terms: If several exceptions apply, the one that is named first is thrown.")
    static void draftOrder() {
        LowAir air = withFullDraft();
        out("draft(25)", () -> air.draft(25));
        out("draft(-1)", () -> air.draft(-1));
    }

    @Says("Part 2: as told (each one any CELL)")
    static void draftOfAnyCell() {
        LowAir air = withCorners();
        air.tower(7, true);
        Check.same("no pad", air.draft(12), 1);
        Check.same("the same again", air.draft(12), 2);
        Check.same("no neighbour of it", air.draft(0), 3);
        Check.same("one with a tower", air.draft(7), 4);
    }

    // ---- promise 11: clear

    @Says("Promise 11: Returns how many CELLS it had.")
    static void clearOfAnEmptyDraft() {
        LowAir air = new LowAir();
        Check.same("clear()", air.clear(), 0);
        Check.same("clear() again", air.clear(), 0);
    }

    @Says("Promise 11: Returns how many CELLS it had.")
    static void clearOfOneCell() {
        LowAir air = new LowAir();
        air.draft(7);
        Check.same("clear()", air.clear(), 1);
        Check.same("many(5)", air.many(5), 0);
    }

    @Says("Promise 11: Returns how many CELLS it had.")
    static void clearOfAFullDraft() {
        LowAir air = withFullDraft();
        Check.same("clear()", air.clear(), 10);
        Check.same("many(5)", air.many(5), 0);
        Check.same("draft behind it", air.draft(0), 1);
    }

    @Says("Promise 11: Clears the DRAFT.")
    static void clearLeavesNothingOfTheDraft() {
        LowAir air = withOne();
        draft(air, 0, 1, 2, 3, 4);
        air.clear();
        state("why of nothing", () -> air.why(0, 1));
        air.draft(0);
        state("why of one cell", () -> air.why(0, 1));
        air.draft(5);
        air.draft(0);
        Check.same("its cells", air.ask(0, 1), 0);
        Check.same("three", air.ofFlight(0, 4), 3);
    }

    private static LowAir withFullDraft() {
        LowAir air = new LowAir();
        for (int i = 0; i < 10; i++) {
            air.draft(i);
        }
        return air;
    }
}
