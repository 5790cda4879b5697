/** The bounds of what one asks, one test for each case: promises 15 to 20. */
public final class AnswerBoundsTest extends Scene {
    private static final String CELL = "Throws IndexOutOfBoundsException if cell is not 0 to 24";
    private static final String NO_CRAFT = "Throws IndexOutOfBoundsException if there is no such CRAFT";
    private static final String NO_FLIGHT = "Throws IndexOutOfBoundsException if there is no such FLIGHT";
    private static final String FIRST = "Terms: If several exceptions apply, the one that is named first is thrown.";
    private static final String OCCUPIES = "It OCCUPIES its k-th CELL (from 0) in the minutes START + 2 k - 1 to "
        + "START + 2 k + 1.";
    private static final String MEAN = "the mean of CHARGES divided by BATTERIES, each CRAFT by itself, not rounded: "
        + "their sum, by numbers, divided by how many; 0 without any";

    private AnswerBoundsTest() {
    }

    public static void main(String[] args) {
        Check.eachOf(AnswerBoundsTest.class);
        Check.end();
    }

    // ---- promise 15: ofCell

    @Says("Promise 15: " + CELL)
    static void ofTheFirstAndTheLastCell() {
        LowAir air = new LowAir();
        air.houses(0, 3);
        air.houses(24, 4);
        Check.same("ofCell(0, 0)", air.ofCell(0, 0), 3);
        Check.same("ofCell(24, 0)", air.ofCell(24, 0), 4);
    }

    @Says("Promise 15: " + CELL)
    static void ofNoCell() {
        LowAir air = withOne();
        for (int what = 0; what <= 5; what++) {
            int asked = what;
            out("ofCell(-1, " + what + ")", () -> air.ofCell(-1, asked));
            out("ofCell(25, " + what + ")", () -> air.ofCell(25, asked));
        }
        out("ofCell of the least number", () -> air.ofCell(LOW, 0));
        out("ofCell of the greatest number", () -> air.ofCell(HIGH, 0));
    }

    @Says("Promise 15: Throws IllegalArgumentException if what is not 0 to 5")
    static void ofCellOfTheFirstAndTheLastWhat() {
        LowAir air = withOne();
        air.houses(0, 3);
        ask(air, 0, 1, 0, 1, 0);
        air.pass(1);
        Check.same("ofCell(0, 0)", air.ofCell(0, 0), 3);
        Check.same("ofCell(0, 5)", air.ofCell(0, 5), 1);
    }

    @Says("Promise 15: Throws IllegalArgumentException if what is not 0 to 5")
    static void ofCellOfNoWhat() {
        LowAir air = withOne();
        argument("ofCell(0, -1)", () -> air.ofCell(0, -1));
        argument("ofCell(0, 6)", () -> air.ofCell(0, 6));
        argument("of the least what", () -> air.ofCell(0, LOW));
        argument("of the greatest what", () -> air.ofCell(0, HIGH));
    }

    @Says(FIRST)
    static void ofCellOrder() {
        LowAir air = withOne();
        out("ofCell(25, 6)", () -> air.ofCell(25, 6));
        out("ofCell(-1, -1)", () -> air.ofCell(-1, -1));
    }

    @Says("Promise 15: 1 1 if it has a TOWER, otherwise 0")
    static void ofCellWithATowerAndWithout() {
        LowAir air = new LowAir();
        air.tower(7, true);
        Check.same("ofCell(7, 1)", air.ofCell(7, 1), 1);
        Check.same("ofCell(8, 1)", air.ofCell(8, 1), 0);
    }

    @Says("Promise 15: 2 its PAD (NONE)")
    static void ofCellWithThePadsAndWithout() {
        LowAir air = withPads(3, 7, 11, 15, 19);
        Check.same("the first pad", air.ofCell(3, 2), 0);
        Check.same("the last pad", air.ofCell(19, 2), 4);
        Check.same("none", air.ofCell(4, 2), NONE);
    }

    @Says("Promise 15: 3 NOISE that was HEARD there on the day of NOW")
    static void ofCellHeardOnTheDayOfNow() {
        LowAir air = withCorners();
        air.craft(0, 0, 200, 2);
        air.houses(1, 3);
        ask(air, 0, 1436, 0, 1, 2, 1, 0);
        passTo(air, 1439);
        Check.same("at 1439", air.ofCell(1, 3), 6);
        passTo(air, 1440);
        Check.same("at 1440", air.ofCell(1, 3), 0);
        passTo(air, 1442);
        Check.same("at 1442", air.ofCell(1, 3), 6);
    }

    @Says("Promise 15: 4 PLANNED noise of that day")
    static void ofCellPlannedOnTheDayOfNow() {
        LowAir air = withCorners();
        air.craft(0, 0, 200, 2);
        air.houses(1, 3);
        ask(air, 0, 1439, 0, 1, 2, 1, 0);
        ask(air, 0, 1460, 0, 1, 0);
        Check.same("of day 0 at 0", air.ofCell(1, 4), 12);
        passTo(air, 1439);
        Check.same("of day 0 at 1439", air.ofCell(1, 4), 12);
        passTo(air, 1440);
        Check.same("of day 1 at 1440", air.ofCell(1, 4), 6);
        passTo(air, 2880);
        Check.same("of day 2", air.ofCell(1, 4), 0);
    }

    @Says("Part 2: APPROVED, FLYING or DONE, and has its START on that day")
    static void ofCellPlannedByState() {
        LowAir air = withCorners();
        air.craft(0, 0, 200, 2);
        air.houses(1, 3);
        ask(air, 0, 1, 0, 1, 0);
        Check.same("approved", air.ofCell(1, 4), 6);
        passTo(air, 1);
        Check.same("flying", air.ofCell(1, 4), 6);
        passTo(air, 5);
        Check.same("done", air.ofCell(1, 4), 6);
        ask(air, 0, 100, 0, 1, 0);
        Check.same("another one", air.ofCell(1, 4), 12);
        air.withdraw(1);
        Check.same("withdrawn", air.ofCell(1, 4), 6);
        ask(air, 0, 20, 4, 3, 2, 1, 0);
        Check.same("one that will be missed", air.ofCell(1, 4), 12);
        passTo(air, 20);
        Check.same("missed", air.ofCell(1, 4), 6);
        ask(air, 0, 30, 0, 1, 0);
        passTo(air, 31);
        air.link(0, false);
        Check.same("one that will be broken", air.ofCell(1, 4), 12);
        passTo(air, 32);
        Check.same("broken", air.ofCell(1, 4), 6);
    }

    @Says("Promise 15: 5 CRAFT that fly there")
    static void ofCellWhereNoneOneAndTwoFly() {
        LowAir air = withPads(0, 1, 4);
        air.craft(0, 0, 200, 0);
        air.craft(1, 0, 200, 0);
        Check.same("they lie", air.ofCell(1, 5), 0);
        ask(air, 0, 1, 0, 1, 2, 3, 4);
        passTo(air, 3);
        Check.same("one lies, one flies", air.ofCell(1, 5), 1);
        passTo(air, 7);
        air.link(0, false);
        passTo(air, 9);
        ask(air, 1, 11, 1, 6, 1);
        passTo(air, 11);
        Check.same("both fly", air.ofCell(1, 5), 2);
        passTo(air, 13);
        Check.same("none does", air.ofCell(1, 5), 0);
        Check.same("one landed", air.ofCell(0, 5), 0);
    }

    @Says("Promise 15: 5 CRAFT that fly there")
    static void ofCellWhereOneIsDown() {
        LowAir air = withOneDownIn1();
        Check.same("ofCell(1, 5)", air.ofCell(1, 5), 0);
    }

    private static LowAir withOneDownIn1() {
        LowAir air = withOne(10);
        ask(air, 0, 1, 0, 1, 0);
        passTo(air, 3);
        air.wind(1, 1);
        passTo(air, 5);
        craftIs(air, 0, DOWN, 1, 0);
        return air;
    }

    // ---- promise 16: ofCraft

    @Says("Promise 16: " + NO_CRAFT)
    static void ofCraftWithoutAny() {
        LowAir air = withCorners();
        out("ofCraft(0, 0)", () -> air.ofCraft(0, 0));
    }

    @Says("Promise 16: " + NO_CRAFT)
    static void ofTheFirstAndTheLastCraft() {
        LowAir air = withSixCraft();
        Check.same("ofCraft(0, 2)", air.ofCraft(0, 2), 10);
        Check.same("ofCraft(5, 2)", air.ofCraft(5, 2), 15);
    }

    @Says("Promise 16: " + NO_CRAFT)
    static void ofNoCraft() {
        LowAir air = withOne();
        for (int what = 0; what <= 9; what++) {
            int asked = what;
            out("ofCraft(-1, " + what + ")", () -> air.ofCraft(-1, asked));
            out("ofCraft(1, " + what + ")", () -> air.ofCraft(1, asked));
        }
        LowAir full = withSixCraft();
        out("ofCraft(6, 0)", () -> full.ofCraft(6, 0));
        out("of the least number", () -> full.ofCraft(LOW, 0));
        out("of the greatest number", () -> full.ofCraft(HIGH, 0));
    }

    @Says("Promise 16: Throws IllegalArgumentException if what is not 0 to 9")
    static void ofCraftOfTheFirstAndTheLastWhat() {
        LowAir air = withCorners();
        air.craft(0, 3, 200, 0);
        ask(air, 0, 1, 0, 1, 0);
        air.zone(0, 0, 0, 4);
        air.pass(1);
        Check.same("ofCraft(0, 0)", air.ofCraft(0, 0), 3);
        Check.same("ofCraft(0, 9)", air.ofCraft(0, 9), 1);
    }

    @Says("Promise 16: Throws IllegalArgumentException if what is not 0 to 9")
    static void ofCraftOfNoWhat() {
        LowAir air = withOne();
        argument("ofCraft(0, -1)", () -> air.ofCraft(0, -1));
        argument("ofCraft(0, 10)", () -> air.ofCraft(0, 10));
        argument("of the least what", () -> air.ofCraft(0, LOW));
        argument("of the greatest what", () -> air.ofCraft(0, HIGH));
    }

    @Says(FIRST)
    static void ofCraftOrder() {
        LowAir air = withOne();
        out("ofCraft(1, 10)", () -> air.ofCraft(1, 10));
        out("ofCraft(-1, -1)", () -> air.ofCraft(-1, -1));
    }

    @Says("Promise 16: 6 0 if it lies on a PAD, 1 if it flies, 2 if it is DOWN")
    static void ofCraftThatLiesFliesAndIsDown() {
        LowAir air = withOne(10);
        Check.same("at first", air.ofCraft(0, 6), 0);
        ask(air, 0, 1, 0, 1, 0);
        passTo(air, 1);
        Check.same("started", air.ofCraft(0, 6), 1);
        passTo(air, 3);
        air.wind(1, 1);
        passTo(air, 4);
        Check.same("still flying", air.ofCraft(0, 6), 1);
        passTo(air, 5);
        Check.same("down", air.ofCraft(0, 6), 2);
        air.fetch(0);
        Check.same("fetched", air.ofCraft(0, 6), 0);
    }

    @Says("Promise 16: 8 the FLIGHT with which it flies (NONE)")
    static void ofCraftWithAFlightAndWithout() {
        LowAir air = withTwo();
        ask(air, 1, 1, 4, 3, 4);
        ask(air, 0, 1, 0, 1, 0);
        Check.same("approved", air.ofCraft(0, 8), NONE);
        passTo(air, 1);
        Check.same("flight 1", air.ofCraft(0, 8), 1);
        Check.same("flight 0", air.ofCraft(1, 8), 0);
        passTo(air, 5);
        Check.same("done", air.ofCraft(0, 8), NONE);
        Check.same("down", withOneDownIn1().ofCraft(0, 8), NONE);
    }

    @Says("Promise 16: 8 the FLIGHT with which it flies (NONE)")
    static void ofCraftWithABrokenFlight() {
        LowAir air = withOne();
        ask(air, 0, 1, 0, 1, 2, 3, 4);
        passTo(air, 5);
        air.link(0, false);
        passTo(air, 7);
        Check.same("on its way home", air.ofCraft(0, 8), 0);
        passTo(air, 9);
        Check.same("landed", air.ofCraft(0, 8), NONE);
    }

    private static LowAir withSixCraft() {
        LowAir air = withCorners();
        for (int i = 0; i < 6; i++) {
            air.craft(0, 0, 10 + i, 0);
        }
        return air;
    }

    // ---- promise 17: ofFlight

    @Says("Promise 17: " + NO_FLIGHT)
    static void ofFlightWithoutAny() {
        LowAir air = withOne();
        out("ofFlight(0, 0)", () -> air.ofFlight(0, 0));
    }

    @Says("Promise 17: " + NO_FLIGHT)
    static void ofTheFirstAndTheLastFlight() {
        LowAir air = withTwelve();
        Check.same("ofFlight(0, 2)", air.ofFlight(0, 2), 10);
        Check.same("ofFlight(11, 2)", air.ofFlight(11, 2), 120);
    }

    @Says("Promise 17: " + NO_FLIGHT)
    static void ofNoFlight() {
        LowAir air = withOne();
        ask(air, 0, 10, 0, 1, 0);
        for (int what = 0; what <= 4; what++) {
            int asked = what;
            out("ofFlight(-1, " + what + ")", () -> air.ofFlight(-1, asked));
            out("ofFlight(1, " + what + ")", () -> air.ofFlight(1, asked));
        }
        LowAir full = withTwelve();
        out("ofFlight(12, 0)", () -> full.ofFlight(12, 0));
        out("of the least number", () -> full.ofFlight(LOW, 0));
        out("of the greatest number", () -> full.ofFlight(HIGH, 0));
    }

    @Says("Promise 17: Throws IllegalArgumentException if what is not 0 to 4")
    static void ofFlightOfTheFirstAndTheLastWhat() {
        LowAir air = withOne();
        ask(air, 0, 10, 0, 1, 0);
        air.withdraw(0);
        Check.same("ofFlight(0, 0)", air.ofFlight(0, 0), WITHDRAWN);
        Check.same("ofFlight(0, 4)", air.ofFlight(0, 4), 3);
    }

    @Says("Promise 17: Throws IllegalArgumentException if what is not 0 to 4")
    static void ofFlightOfNoWhat() {
        LowAir air = withOne();
        ask(air, 0, 10, 0, 1, 0);
        argument("ofFlight(0, -1)", () -> air.ofFlight(0, -1));
        argument("ofFlight(0, 5)", () -> air.ofFlight(0, 5));
        argument("of the least what", () -> air.ofFlight(0, LOW));
        argument("of the greatest what", () -> air.ofFlight(0, HIGH));
    }

    @Says(FIRST)
    static void ofFlightOrder() {
        LowAir air = withOne();
        ask(air, 0, 10, 0, 1, 0);
        out("ofFlight(1, 5)", () -> air.ofFlight(1, 5));
        out("ofFlight(-1, -1)", () -> air.ofFlight(-1, -1));
    }

    @Says("Part 2: Its END is START + 2 times (its CELLS less 1).")
    static void endOfTheShortestAndTheLongestFlight() {
        LowAir air = withPads(0, 5);
        air.craft(0, 0, 200, 0);
        ask(air, 0, 1, 0, 5);
        ask(air, 0, 10, 5, 0, 1, 2, 3, 8, 7, 6, 5, 0);
        Check.same("of 2 cells", air.ofFlight(0, 3), 3);
        Check.same("of 10 cells", air.ofFlight(1, 3), 28);
        Check.same("its cells", air.ofFlight(1, 4), 10);
    }

    private static LowAir withTwelve() {
        LowAir air = withOne();
        for (int i = 0; i < 12; i++) {
            ask(air, 0, 10 + 10 * i, 0, 1, 0);
        }
        return air;
    }

    // ---- promise 18: occupies

    @Says("Promise 18: " + CELL)
    static void occupiesTheFirstAndTheLastCell() {
        LowAir air = withTwo();
        ask(air, 0, 10, 0, 1, 0);
        ask(air, 1, 10, 24, 23, 24);
        Check.same("occupies(0, 10)", air.occupies(0, 10), 0);
        Check.same("occupies(24, 10)", air.occupies(24, 10), 1);
    }

    @Says("Promise 18: " + CELL)
    static void occupiesNoCell() {
        LowAir air = withOne();
        out("occupies(-1, 10)", () -> air.occupies(-1, 10));
        out("occupies(25, 10)", () -> air.occupies(25, 10));
        out("occupies of the least number", () -> air.occupies(LOW, 10));
        out("occupies of the greatest number", () -> air.occupies(HIGH, 10));
    }

    @Says("Promise 18: Throws IllegalArgumentException if minute is below 0")
    static void occupiesAtMinute0() {
        LowAir air = withOne();
        ask(air, 0, 1, 0, 1, 0);
        Check.same("occupies(0, 0)", air.occupies(0, 0), 0);
        Check.same("occupies(1, 0)", air.occupies(1, 0), NONE);
    }

    @Says("Promise 18: Throws IllegalArgumentException if minute is below 0")
    static void occupiesBelowMinute0() {
        LowAir air = withOne();
        argument("occupies(0, -1)", () -> air.occupies(0, -1));
        argument("occupies at the least minute", () -> air.occupies(0, LOW));
    }

    @Says("Promise 18: Throws IllegalArgumentException if minute is below 0")
    static void occupiesInTheLastMinuteOfAll() {
        LowAir air = withOne();
        ask(air, 0, 2000, 0, 1, 0);
        Check.same("occupies at the greatest minute", air.occupies(0, HIGH), NONE);
        passTo(air, 5000);
        ask(air, 0, 7000, 0, 1, 0);
        Check.same("occupies(0, 7005)", air.occupies(0, 7005), 1);
    }

    @Says(FIRST)
    static void occupiesOrder() {
        LowAir air = withOne();
        out("occupies(25, -1)", () -> air.occupies(25, -1));
        out("occupies(-1, -1)", () -> air.occupies(-1, -1));
    }

    @Says("Part 2: " + OCCUPIES)
    static void occupiesItsFirstCell() {
        isOccupied(0, 9, 11);
    }

    @Says("Part 2: " + OCCUPIES)
    static void occupiesItsSecondCell() {
        isOccupied(1, 11, 13);
    }

    @Says("Part 2: " + OCCUPIES)
    static void occupiesAMiddlingCell() {
        isOccupied(3, 15, 17);
    }

    @Says("Part 2: " + OCCUPIES)
    static void occupiesItsLastCell() {
        isOccupied(4, 17, 19);
    }

    /** Of a flight from 10 on along 0 1 2 3 4. */
    private static void isOccupied(int cell, int from, int to) {
        LowAir air = withOne();
        ask(air, 0, 10, 0, 1, 2, 3, 4);
        Check.same("the minute ahead of it", air.occupies(cell, from - 1), NONE);
        Check.same("the first minute", air.occupies(cell, from), 0);
        Check.same("the last minute", air.occupies(cell, to), 0);
        Check.same("the minute behind it", air.occupies(cell, to + 1), NONE);
    }

    @Says("Part 2: " + OCCUPIES)
    static void occupiesACellThatComesTwice() {
        LowAir air = withOne();
        ask(air, 0, 10, 0, 1, 2, 1, 0);
        Check.same("the first time", air.occupies(1, 13), 0);
        Check.same("between", air.occupies(1, 14), NONE);
        Check.same("the second time", air.occupies(1, 15), 0);
    }

    @Says("Promise 18: Returns the FLIGHT that is APPROVED or FLYING and OCCUPIES it then")
    static void occupiesByState() {
        LowAir air = withOne();
        ask(air, 0, 10, 0, 1, 0);
        Check.same("approved", air.occupies(1, 12), 0);
        passTo(air, 10);
        Check.same("flying", air.occupies(1, 12), 0);
        passTo(air, 13);
        Check.same("flying, behind the cell", air.occupies(1, 12), 0);
        passTo(air, 14);
        Check.same("done", air.occupies(1, 12), NONE);
    }

    @Says("Promise 18: Returns the FLIGHT that is APPROVED or FLYING and OCCUPIES it then")
    static void occupiesNothingOtherwise() {
        LowAir withdrawn = withOne();
        ask(withdrawn, 0, 10, 0, 1, 0);
        withdrawn.withdraw(0);
        Check.same("withdrawn", withdrawn.occupies(1, 12), NONE);
        LowAir missed = withOne();
        ask(missed, 0, 10, 4, 3, 4);
        passTo(missed, 10);
        Check.same("missed", missed.occupies(3, 12), NONE);
        LowAir broken = withOne();
        ask(broken, 0, 10, 0, 1, 2, 1, 0);
        passTo(broken, 13);
        broken.link(0, false);
        passTo(broken, 14);
        flightIs(broken, 0, BROKEN);
        Check.same("broken", broken.occupies(1, 16), NONE);
        Check.same("lost", withOneDownIn1().occupies(0, 5), NONE);
    }

    @Says("Promise 18: NONE without one")
    static void occupiesWithoutAnyFlight() {
        LowAir air = withOne();
        Check.same("occupies(0, 1)", air.occupies(0, 1), NONE);
    }

    @Says("Promise 18: Returns the FLIGHT that is APPROVED or FLYING and OCCUPIES it then")
    static void occupiesByTheOneOfManyThatDoes() {
        LowAir air = withTwelve();
        air.withdraw(0);
        Check.same("the withdrawn one", air.occupies(1, 12), NONE);
        Check.same("the second one", air.occupies(1, 22), 1);
        Check.same("the last one", air.occupies(1, 122), 11);
    }

    // ---- promise 19: many

    @Says("Promise 19: Throws IllegalArgumentException if what is not 0 to 15")
    static void manyOfTheFirstAndTheLastWhat() {
        LowAir air = withCorners();
        air.craft(0, 0, 200, 3);
        air.houses(0, 2);
        ask(air, 0, 7, 0, 1, 0);
        air.pass(7);
        Check.same("many(0)", air.many(0), 7);
        Check.same("many(15)", air.many(15), 6);
    }

    @Says("Promise 19: Throws IllegalArgumentException if what is not 0 to 15")
    static void manyOfNoWhat() {
        LowAir air = withOne();
        argument("many(-1)", () -> air.many(-1));
        argument("many(16)", () -> air.many(16));
        argument("of the least what", () -> air.many(LOW));
        argument("of the greatest what", () -> air.many(HIGH));
    }

    @Says("Promise 19: 0 NOW, 1 PADS, 2 ZONES, 3 CRAFT, 4 FLIGHTS, 5 CELLS in the DRAFT")
    static void manyOfTheMost() {
        LowAir air = withPads(0, 4, 20, 24, 12);
        for (int i = 0; i < 6; i++) {
            air.craft(0, 0, 200, 0);
            air.zone(13, 0, 0, 1);
        }
        for (int i = 0; i < 12; i++) {
            ask(air, 0, 10 + 10 * i, 0, 1, 0);
        }
        draft(air, 0, 0, 0, 0, 0, 0, 0, 0, 0, 0);
        passTo(air, 5000);
        int[] due = {5000, 5, 6, 6, 12, 10};
        for (int what = 0; what <= 5; what++) {
            Check.same("many(" + what + ")", air.many(what), due[what]);
        }
    }

    @Says("Promise 19: 6 to 12 how many FLIGHTS have the state 0 to 6")
    static void manyOfEachState() {
        LowAir air = withTwo();
        air.craft(1, 0, 10, 0);
        air.craft(2, 0, 200, 0);
        // Of craft 0: done, withdrawn, missed and approved; lost of craft 2, broken of craft 3, flying of craft 1.
        ask(air, 0, 1, 0, 1, 0);
        ask(air, 0, 100, 0, 1, 0);
        ask(air, 0, 20, 4, 3, 4);
        ask(air, 0, 200, 0, 1, 0);
        ask(air, 2, 1, 4, 9, 4);
        ask(air, 3, 2, 20, 21, 20);
        ask(air, 1, 40, 4, 3, 4);
        air.withdraw(1);
        passTo(air, 3);
        air.wind(2, 1);
        air.link(3, false);
        passTo(air, 40);
        for (int state = 0; state <= 6; state++) {
            Check.same("flights of state " + state, air.many(6 + state), 1);
        }
        Check.same("all", air.many(4), 7);
    }

    @Says("Promise 19: 13 how often craft were NEAR, 14 all BREACHES, 15 all NOISE that was HEARD ever")
    static void manyBreachesOfSeveral() {
        LowAir air = withTwo();
        ask(air, 0, 1, 0, 1, 0);
        ask(air, 1, 1, 4, 3, 4);
        air.zone(0, 0, 0, 4);
        air.zone(3, 0, 0, 4);
        passTo(air, 5);
        Check.same("of craft 0", air.ofCraft(0, 9), 2);
        Check.same("of craft 1", air.ofCraft(1, 9), 1);
        Check.same("of all", air.many(14), 3);
    }

    // ---- promise 20: meanCharge

    @Says("Promise 20: " + MEAN)
    static void meanChargeWithoutAnyCraft() {
        Check.sameDouble("meanCharge()", new LowAir().meanCharge(), 0.0);
        Check.sameDouble("with pads alone", withCorners().meanCharge(), 0.0);
    }

    @Says("Promise 20: " + MEAN)
    static void meanChargeOfFullBatteries() {
        LowAir air = withSixCraft();
        Check.sameDouble("meanCharge()", air.meanCharge(), 1.0);
    }

    @Says("Promise 20: " + MEAN)
    static void meanChargeOfNothing() {
        LowAir air = withOneDownIn1();
        Check.sameDouble("meanCharge()", air.meanCharge(), 0.0);
    }

    @Says("Promise 20: " + MEAN)
    static void meanChargeOfOneIsNotRounded() {
        LowAir air = withOne(30);
        ask(air, 0, 1, 0, 1, 0);
        passTo(air, 5);
        Check.sameDouble("meanCharge()", air.meanCharge(), 20.0 / 30.0);
    }

    @Says("Promise 20: " + MEAN)
    static void meanChargeByNumbers() {
        // Summed up in another order, or divided in another way, the last digit of these would differ for some minute.
        LowAir air = withCorners();
        int[] batteries = {30, 70, 190};
        air.craft(0, 0, 30, 0);
        air.craft(1, 0, 70, 0);
        air.craft(3, 0, 190, 0);
        ask(air, 0, 1, 0, 1, 0);
        ask(air, 1, 1, 4, 9, 14, 19, 24);
        ask(air, 2, 1, 24, 23, 22, 21, 20);
        for (int minute = 1; minute <= 20; minute++) {
            air.pass(1);
            double sum = 0;
            for (int craft = 0; craft < 3; craft++) {
                sum += (double) air.ofCraft(craft, 3) / batteries[craft];
            }
            Check.sameDouble("meanCharge() at " + minute, air.meanCharge(), sum / 3);
        }
    }
}
