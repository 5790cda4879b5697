import java.math.BigInteger;

/** The bounds of what would be, one test for each case: promises 21 to 27. */
public final class WouldBoundsTest extends Scene {
    private static final String NO_CRAFT = "Throws IndexOutOfBoundsException if there is no such CRAFT";
    private static final String NO_CRAFT_OR_CELL = NO_CRAFT + ", or CELL";
    private static final String START = "Throws IllegalArgumentException if start is not later than NOW, or more than "
        + "2000 minutes later";
    private static final String NO_WAY = "Throws IllegalStateException if the DRAFT is no way from PAD to PAD as said";
    private static final String MINUTES = "Throws IllegalArgumentException if minutes is not 1 to 100";
    private static final String FIRST = "Terms: If several exceptions apply, the one that is named first is thrown.";
    private static final String WITHIN_200 = "Returns the first START from NOW + 1 to NOW + 200 for which why() would "
        + "be 0; NONE without one.";
    private static final String OPEN = "that one as well, without a TOWER that no ZONE shuts for it at NOW";
    private static final String OWN = "the CELL where it is is not looked at";

    private WouldBoundsTest() {
    }

    public static void main(String[] args) {
        Check.eachOf(WouldBoundsTest.class);
        Check.end();
    }

    // ---- promise 21: why

    @Says("Promise 21: " + NO_CRAFT)
    static void whyWithoutAnyCraft() {
        LowAir air = withCorners();
        draft(air, 0, 1, 0);
        out("why(0, 1)", () -> air.why(0, 1));
    }

    @Says("Promise 21: " + NO_CRAFT)
    static void whyOfTheFirstAndTheLastCraft() {
        LowAir air = withSixCraft();
        draft(air, 0, 1, 2, 3, 4);
        Check.same("why(0, 1) with 10", air.why(0, 1), 5);
        Check.same("why(5, 1) with 60", air.why(5, 1), 0);
    }

    @Says("Promise 21: " + NO_CRAFT)
    static void whyOfNoCraft() {
        LowAir air = withOne();
        draft(air, 0, 1, 0);
        out("why(-1, 1)", () -> air.why(-1, 1));
        out("why(1, 1)", () -> air.why(1, 1));
        out("why of the least number", () -> air.why(LOW, 1));
        out("why of the greatest number", () -> air.why(HIGH, 1));
    }

    @Says("Promise 21: " + START)
    static void whyForNowAndTheNextMinute() {
        LowAir air = withOne();
        draft(air, 0, 1, 0);
        argument("why(0, 0) at 0", () -> air.why(0, 0));
        Check.same("why(0, 1) at 0", air.why(0, 1), 0);
        air.pass(70);
        argument("why(0, 70) at 70", () -> air.why(0, 70));
        Check.same("why(0, 71) at 70", air.why(0, 71), 0);
        argument("why for the least number", () -> air.why(0, LOW));
    }

    @Says("Promise 21: " + START)
    static void whyFor2000And2001MinutesLater() {
        LowAir air = withOne();
        draft(air, 0, 1, 0);
        Check.same("why(0, 2000) at 0", air.why(0, 2000), 0);
        argument("why(0, 2001) at 0", () -> air.why(0, 2001));
        air.pass(70);
        Check.same("why(0, 2070) at 70", air.why(0, 2070), 0);
        argument("why(0, 2071) at 70", () -> air.why(0, 2071));
        argument("why for the greatest number", () -> air.why(0, HIGH));
    }

    @Says("Promise 21: " + START)
    static void whyForWhatIsAbove5000() {
        LowAir air = withOne();
        passTo(air, 5000);
        draft(air, 0, 1, 0);
        argument("why(0, 5000)", () -> air.why(0, 5000));
        Check.same("why(0, 5001)", air.why(0, 5001), 0);
        Check.same("why(0, 7000)", air.why(0, 7000), 0);
        argument("why(0, 7001)", () -> air.why(0, 7001));
    }

    @Says("Promise 21: " + NO_WAY)
    static void whyWithoutAWay() {
        LowAir air = withOne();
        state("with an empty draft", () -> air.why(0, 1));
        draft(air, 0);
        state("with one cell", () -> air.why(0, 1));
        draft(air, 0, 1);
        state("to no pad", () -> air.why(0, 1));
        draft(air, 1, 0);
        state("from no pad", () -> air.why(0, 1));
        draft(air, 0, 4);
        state("with cells apart", () -> air.why(0, 1));
        draft(air, 0, 1, 2, 3, 4);
        Check.same("with a way", air.why(0, 1), 0);
    }

    @Says("Promise 21: 0: it would be APPROVED; whether or not there were 12")
    static void whyBehindTwelveFlights() {
        LowAir air = withOne();
        for (int i = 0; i < 12; i++) {
            Check.same("flight " + i, ask(air, 0, 10 + 10 * i, 0, 1, 0), i);
        }
        draft(air, 0, 1, 0);
        Check.same("without a reason", air.why(0, 200), 0);
        Check.same("with one", air.why(0, 100), 4);
    }

    @Says(FIRST)
    static void whyOrder() {
        LowAir air = withOne();
        out("all are wrong", () -> air.why(1, 0));
        out("craft and draft are wrong", () -> air.why(1, 1));
        argument("start and draft are wrong", () -> air.why(0, 0));
        argument("start and draft are wrong", () -> air.why(0, 2001));
    }

    // ---- promise 22: soonest

    @Says("Promise 22: " + NO_CRAFT)
    static void soonestWithoutAnyCraft() {
        LowAir air = withCorners();
        draft(air, 0, 1, 0);
        out("soonest(0)", () -> air.soonest(0));
    }

    @Says("Promise 22: " + NO_CRAFT)
    static void soonestOfTheFirstAndTheLastCraft() {
        LowAir air = withSixCraft();
        draft(air, 0, 1, 2, 3, 4);
        Check.same("soonest(0) with 10", air.soonest(0), NONE);
        Check.same("soonest(5) with 60", air.soonest(5), 1);
    }

    @Says("Promise 22: " + NO_CRAFT)
    static void soonestOfNoCraft() {
        LowAir air = withOne();
        draft(air, 0, 1, 0);
        out("soonest(-1)", () -> air.soonest(-1));
        out("soonest(1)", () -> air.soonest(1));
        out("soonest of the least number", () -> air.soonest(LOW));
        out("soonest of the greatest number", () -> air.soonest(HIGH));
    }

    @Says("Promise 22: " + NO_WAY)
    static void soonestWithoutAWay() {
        LowAir air = withOne();
        state("with an empty draft", () -> air.soonest(0));
        draft(air, 0);
        state("with one cell", () -> air.soonest(0));
        draft(air, 0, 1);
        state("to no pad", () -> air.soonest(0));
        draft(air, 1, 0);
        state("from no pad", () -> air.soonest(0));
        draft(air, 0, 4);
        state("with cells apart", () -> air.soonest(0));
    }

    @Says(FIRST)
    static void soonestOrder() {
        LowAir air = withOne();
        out("craft and draft are wrong", () -> air.soonest(1));
        out("craft and draft are wrong", () -> air.soonest(-1));
    }

    @Says("Promise 22: " + WITHIN_200)
    static void soonestInTheNextMinute() {
        LowAir air = withOne();
        draft(air, 0, 1, 0);
        Check.same("at 0", air.soonest(0), 1);
        air.pass(70);
        Check.same("at 70", air.soonest(0), 71);
        passTo(air, 5000);
        Check.same("at 5000", air.soonest(0), 5001);
    }

    @Says("Promise 22: " + WITHIN_200)
    static void soonestInTheMinuteBehindThat() {
        LowAir air = withOne();
        air.zone(0, 1, 2, 1);
        draft(air, 0, 1, 0);
        passTo(air, 119);
        // At 120, it would be in 0 from 119 on.
        Check.same("at 119", air.soonest(0), 121);
    }

    @Says("Promise 22: " + WITHIN_200)
    static void soonestIn200Minutes() {
        LowAir air = withOne();
        air.zone(0, 0, 4, 1);
        draft(air, 0, 1, 0);
        // The zone is shut up to 239: the first start is 241.
        passTo(air, 41);
        Check.same("at 41", air.soonest(0), 241);
    }

    @Says("Promise 22: " + WITHIN_200)
    static void soonestIn201Minutes() {
        LowAir air = withOne();
        air.zone(0, 0, 4, 1);
        draft(air, 0, 1, 0);
        passTo(air, 40);
        Check.same("at 40", air.soonest(0), NONE);
        Check.same("why at 240", air.why(0, 240), 2);
        Check.same("why at 241", air.why(0, 241), 0);
    }

    @Says("Promise 22: " + WITHIN_200)
    static void soonestNever() {
        LowAir air = withOne();
        air.tower(1, true);
        draft(air, 0, 1, 0);
        Check.same("soonest(0)", air.soonest(0), NONE);
    }

    @Says("Promise 22: for which why() would be 0")
    static void soonestBehindTwelveFlights() {
        LowAir air = withOne();
        for (int i = 0; i < 12; i++) {
            ask(air, 0, 10 + 10 * i, 0, 1, 0);
        }
        draft(air, 0, 1, 0);
        Check.same("ahead of them", air.soonest(0), 1);
        passTo(air, 7);
        // Each of them ends 6 minutes ahead of the next one: there is no room for 4 minutes more.
        Check.same("behind the last one", air.soonest(0), 127);
    }

    // ---- promise 23: way

    @Says("Promise 23: " + NO_CRAFT_OR_CELL)
    static void wayWithoutAnyCraft() {
        LowAir air = withCorners();
        out("way(0, 0)", () -> air.way(0, 0));
    }

    @Says("Promise 23: " + NO_CRAFT_OR_CELL)
    static void wayOfTheFirstAndTheLastCraft() {
        LowAir air = withSixCraft();
        Check.same("way(0, 1)", air.way(0, 1), 1);
        Check.same("way(5, 1)", air.way(5, 1), 1);
    }

    @Says("Promise 23: " + NO_CRAFT_OR_CELL)
    static void wayOfNoCraft() {
        LowAir air = withOne();
        out("way(-1, 0)", () -> air.way(-1, 0));
        out("way(1, 0)", () -> air.way(1, 0));
        out("way of the least number", () -> air.way(LOW, 0));
        out("way of the greatest number", () -> air.way(HIGH, 0));
    }

    @Says("Promise 23: " + NO_CRAFT_OR_CELL)
    static void wayToTheFirstAndTheLastCell() {
        LowAir air = withPads(12);
        air.craft(0, 0, 10, 0);
        Check.same("way(0, 0)", air.way(0, 0), 4);
        Check.same("way(0, 24)", air.way(0, 24), 4);
    }

    @Says("Promise 23: " + NO_CRAFT_OR_CELL)
    static void wayToNoCell() {
        LowAir air = withOne();
        out("way(0, -1)", () -> air.way(0, -1));
        out("way(0, 25)", () -> air.way(0, 25));
        out("way to the least number", () -> air.way(0, LOW));
        out("way to the greatest number", () -> air.way(0, HIGH));
        out("both are wrong", () -> air.way(1, 25));
    }

    @Says("Promise 23: Returns the fewest MOVES from the CELL where it is to that one")
    static void wayToItsOwnCellANeighbourAndTheFarthest() {
        LowAir air = withOne(10);
        Check.same("way(0, 0)", air.way(0, 0), 0);
        Check.same("way(0, 1)", air.way(0, 1), 1);
        Check.same("way(0, 5)", air.way(0, 5), 1);
        Check.same("way(0, 24)", air.way(0, 24), 8);
    }

    @Says("Promise 23: Returns the fewest MOVES from the CELL where it is to that one")
    static void wayOfTheLongest() {
        LowAir air = withWalls();
        Check.same("way(0, 24)", air.way(0, 24), 16);
        Check.same("the last cell but one", air.way(0, 19), 15);
    }

    @Says("Promise 23: NONE without a way")
    static void noWay() {
        LowAir air = withOne();
        air.tower(1, true);
        air.tower(5, true);
        Check.same("way(0, 2)", air.way(0, 2), NONE);
        Check.same("way(0, 24)", air.way(0, 24), NONE);
        Check.same("way(0, 0)", air.way(0, 0), 0);
    }

    @Says("Promise 23: " + OPEN)
    static void wayToATower() {
        LowAir air = withOne();
        air.tower(1, true);
        Check.same("way(0, 1)", air.way(0, 1), NONE);
        air.tower(1, false);
        Check.same("way(0, 1)", air.way(0, 1), 1);
    }

    @Says("Promise 23: " + OPEN)
    static void wayToAZoneInItsFirstAndLastMinute() {
        LowAir air = withOne();
        air.zone(1, 1, 2, 1);
        passTo(air, 59);
        Check.same("at 59", air.way(0, 1), 1);
        passTo(air, 60);
        Check.same("at 60", air.way(0, 1), NONE);
        passTo(air, 119);
        Check.same("at 119", air.way(0, 1), NONE);
        passTo(air, 120);
        Check.same("at 120", air.way(0, 1), 1);
    }

    @Says("Promise 23: " + OPEN)
    static void wayThroughAZone() {
        LowAir air = withOne();
        air.tower(5, true);
        air.zone(1, 1, 2, 1);
        passTo(air, 59);
        Check.same("at 59", air.way(0, 2), 2);
        passTo(air, 60);
        Check.same("at 60", air.way(0, 2), NONE);
    }

    @Says("Promise 23: " + OPEN)
    static void wayOfAClassThatTheZoneDoesNotShut() {
        LowAir air = withCorners();
        air.craft(0, 1, 10, 0);
        air.craft(0, 2, 10, 0);
        air.zone(1, 0, 0, 2);
        Check.same("class 1, least 2", air.way(0, 1), NONE);
        Check.same("class 2, least 2", air.way(1, 1), 1);
    }

    @Says("Promise 23: " + OWN)
    static void wayFromACellThatIsShut() {
        LowAir air = withOne();
        air.zone(0, 0, 0, 4);
        Check.same("way(0, 1)", air.way(0, 1), 1);
        Check.same("way(0, 0)", air.way(0, 0), 0);
    }

    @Says("Promise 23: " + OWN)
    static void wayFromATower() {
        LowAir air = withOne();
        ask(air, 0, 1, 0, 1, 0);
        passTo(air, 3);
        air.tower(1, true);
        Check.same("way(0, 2)", air.way(0, 2), 1);
        Check.same("way(0, 1)", air.way(0, 1), 0);
    }

    @Says("Promise 23: from the CELL where it is")
    static void wayOfOneThatIsDown() {
        LowAir air = withOne(10);
        ask(air, 0, 1, 0, 1, 0);
        passTo(air, 3);
        air.wind(1, 1);
        passTo(air, 5);
        craftIs(air, 0, DOWN, 1, 0);
        Check.same("way(0, 4)", air.way(0, 4), 3);
        Check.same("cost(0, 4)", air.cost(0, 4), 9);
    }

    /** Towers, so that the only way from 0 to 24 is a long one. */
    private static LowAir withWalls() {
        LowAir air = withOne();
        for (int cell : new int[] {1, 6, 11, 16, 8, 13, 18, 23}) {
            air.tower(cell, true);
        }
        return air;
    }

    // ---- promise 24: cost

    @Says("Promise 24: " + NO_CRAFT_OR_CELL)
    static void costWithoutAnyCraft() {
        LowAir air = withCorners();
        out("cost(0, 0)", () -> air.cost(0, 0));
    }

    @Says("Promise 24: " + NO_CRAFT_OR_CELL)
    static void costOfTheFirstAndTheLastCraft() {
        LowAir air = withSixCraft();
        Check.same("cost(0, 1)", air.cost(0, 1), 4);
        Check.same("cost(5, 1)", air.cost(5, 1), 4);
    }

    @Says("Promise 24: " + NO_CRAFT_OR_CELL)
    static void costOfNoCraft() {
        LowAir air = withOne();
        out("cost(-1, 0)", () -> air.cost(-1, 0));
        out("cost(1, 0)", () -> air.cost(1, 0));
        out("cost of the least number", () -> air.cost(LOW, 0));
        out("cost of the greatest number", () -> air.cost(HIGH, 0));
    }

    @Says("Promise 24: " + NO_CRAFT_OR_CELL)
    static void costToTheFirstAndTheLastCell() {
        LowAir air = withPads(12);
        air.craft(0, 0, 10, 0);
        Check.same("cost(0, 0)", air.cost(0, 0), 16);
        Check.same("cost(0, 24)", air.cost(0, 24), 16);
    }

    @Says("Promise 24: " + NO_CRAFT_OR_CELL)
    static void costToNoCell() {
        LowAir air = withOne();
        out("cost(0, -1)", () -> air.cost(0, -1));
        out("cost(0, 25)", () -> air.cost(0, 25));
        out("cost to the least number", () -> air.cost(0, LOW));
        out("cost to the greatest number", () -> air.cost(0, HIGH));
        out("both are wrong", () -> air.cost(1, 25));
    }

    @Says("Promise 24: by the WIND now (without a start)")
    static void costWithoutAStart() {
        LowAir air = withOne(10);
        Check.same("to its own cell", air.cost(0, 0), 0);
        Check.same("to a neighbour", air.cost(0, 1), 4);
        Check.same("more than it has", air.cost(0, 24), 32);
    }

    @Says("Promise 24: by the WIND now (without a start)")
    static void costByTheStrongestWind() {
        LowAir air = withOne();
        air.wind(1, 3);
        Check.same("with it", air.cost(0, 4), 4);
        Check.same("across it", air.cost(0, 20), 16);
        air.wind(3, 3);
        Check.same("against it", air.cost(0, 4), 28);
    }

    @Says("Promise 24: Returns the least CHARGE that MOVES through such CELLS to that one cost")
    static void costOfTheCheapestWayRound() {
        LowAir air = withPads(11);
        air.craft(0, 0, 10, 0);
        air.wind(0, 3);
        air.tower(12, true);
        // To 13 over 7, north first: 1 + 4 + 4 + 7. Over 17, south first: 7 + 4 + 4 + 1.
        Check.same("round it", air.cost(0, 13), 16);
        air.zone(17, 0, 0, 4);
        Check.same("by the north alone", air.cost(0, 13), 16);
        air.tower(7, true);
        Check.same("farther to the north", air.cost(0, 13), 2 + 8 + 14);
        Check.same("its moves", air.way(0, 13), 6);
    }

    @Says("Promise 24: NONE without a way")
    static void noCost() {
        LowAir air = withOne();
        air.tower(1, true);
        air.zone(5, 0, 0, 4);
        Check.same("to a tower", air.cost(0, 1), NONE);
        Check.same("to a zone", air.cost(0, 5), NONE);
        Check.same("behind them", air.cost(0, 24), NONE);
        Check.same("to its own cell", air.cost(0, 0), 0);
    }

    @Says("Promise 24: Returns the least CHARGE that MOVES through such CELLS to that one cost")
    static void costOfTheLongest() {
        LowAir air = withWalls();
        Check.same("cost(0, 24)", air.cost(0, 24), 64);
        air.wind(2, 3);
        // 4 to the south for 1, 4 to the north for 7, 4 to the south for 1, and 4 to the east.
        Check.same("by a wind to the south", air.cost(0, 24), 4 + 28 + 4 + 16);
    }

    // ---- promise 25: wouldNear

    @Says("Promise 25: " + MINUTES)
    static void wouldNearOfOneAndAHundredMinutes() {
        LowAir air = withTwoNearAt15();
        Check.same("wouldNear(1)", air.wouldNear(1), 0);
        Check.same("wouldNear(100)", air.wouldNear(100), 2);
    }

    @Says("Promise 25: " + MINUTES)
    static void wouldNearOfTooFewAndTooMany() {
        LowAir air = withTwoNearAt15();
        argument("wouldNear(0)", () -> air.wouldNear(0));
        argument("wouldNear(-1)", () -> air.wouldNear(-1));
        argument("wouldNear(101)", () -> air.wouldNear(101));
        argument("wouldNear of the least number", () -> air.wouldNear(LOW));
        argument("wouldNear of the greatest number", () -> air.wouldNear(HIGH));
    }

    @Says("Promise 25: Returns how often craft would be NEAR in them")
    static void wouldNearUpToTheMinuteOfIt() {
        LowAir air = withTwoNearAt15();
        // They are near at 15 and 16, and it is 13.
        Check.same("wouldNear(1)", air.wouldNear(1), 0);
        Check.same("wouldNear(2)", air.wouldNear(2), 1);
        Check.same("wouldNear(3)", air.wouldNear(3), 2);
        Check.same("wouldNear(4)", air.wouldNear(4), 2);
    }

    @Says("Promise 25: Returns how often craft would be NEAR in them")
    static void wouldNearWithoutWhatIsPast() {
        LowAir air = withTwoNearAt15();
        passTo(air, 15);
        Check.same("many(13) at 15", air.many(13), 1);
        Check.same("wouldNear(100) at 15", air.wouldNear(100), 1);
        passTo(air, 16);
        Check.same("many(13) at 16", air.many(13), 2);
        Check.same("wouldNear(100) at 16", air.wouldNear(100), 0);
    }

    @Says("Promise 25: Returns how often craft would be NEAR in them")
    static void wouldNearWithoutAnyCraft() {
        Check.same("wouldNear(100)", new LowAir().wouldNear(100), 0);
    }

    @Says("Promise 25: NOW may be above 5000 by that")
    static void wouldNearAbove5000() {
        LowAir air = withPads(0, 1, 4);
        air.craft(0, 0, 200, 0);
        air.craft(1, 0, 200, 0);
        passTo(air, 4988);
        // Broken at 4999, craft 0 is in 1 at 5003 and 5004.
        ask(air, 0, 4989, 0, 5, 6, 7, 8, 3, 4);
        passTo(air, 4997);
        air.link(0, false);
        passTo(air, 5000);
        Check.same("ask", ask(air, 1, 5003, 1, 6, 1), 1);
        Check.same("wouldNear(2)", air.wouldNear(2), 0);
        Check.same("wouldNear(3)", air.wouldNear(3), 1);
        Check.same("wouldNear(100)", air.wouldNear(100), 2);
        Check.same("NOW", air.many(0), 5000);
    }

    /** At 13. Craft 0, its flight broken, is to be in 1 at 15 and 16, and craft 1 is to start there at 15. */
    private static LowAir withTwoNearAt15() {
        LowAir air = withPads(0, 1, 4);
        air.craft(0, 0, 200, 0);
        air.craft(1, 0, 200, 0);
        ask(air, 0, 1, 0, 5, 6, 7, 8, 3, 4);
        passTo(air, 9);
        air.link(0, false);
        passTo(air, 13);
        Check.same("ask", ask(air, 1, 15, 1, 6, 1), 1);
        return air;
    }

    // ---- promise 26: wouldHave

    @Says("Promise 26: " + NO_CRAFT)
    static void wouldHaveWithoutAnyCraft() {
        LowAir air = withCorners();
        out("wouldHave(0, 1)", () -> air.wouldHave(0, 1));
    }

    @Says("Promise 26: " + NO_CRAFT)
    static void wouldHaveOfTheFirstAndTheLastCraft() {
        LowAir air = withSixCraft();
        Check.same("wouldHave(0, 1)", air.wouldHave(0, 1), 10);
        Check.same("wouldHave(5, 1)", air.wouldHave(5, 1), 60);
    }

    @Says("Promise 26: " + NO_CRAFT)
    static void wouldHaveOfNoCraft() {
        LowAir air = withOne();
        out("wouldHave(-1, 1)", () -> air.wouldHave(-1, 1));
        out("wouldHave(1, 1)", () -> air.wouldHave(1, 1));
        out("wouldHave of the least number", () -> air.wouldHave(LOW, 1));
        out("wouldHave of the greatest number", () -> air.wouldHave(HIGH, 1));
    }

    @Says("Promise 26: " + MINUTES)
    static void wouldHaveInOneAndAHundredMinutes() {
        LowAir air = withOne();
        ask(air, 0, 1, 0, 1, 2, 3, 4);
        Check.same("wouldHave(0, 1)", air.wouldHave(0, 1), 198);
        Check.same("wouldHave(0, 100)", air.wouldHave(0, 100), 200);
    }

    @Says("Promise 26: " + MINUTES)
    static void wouldHaveInTooFewAndTooMany() {
        LowAir air = withOne();
        argument("wouldHave(0, 0)", () -> air.wouldHave(0, 0));
        argument("wouldHave(0, -1)", () -> air.wouldHave(0, -1));
        argument("wouldHave(0, 101)", () -> air.wouldHave(0, 101));
        argument("wouldHave in the least number", () -> air.wouldHave(0, LOW));
        argument("wouldHave in the greatest number", () -> air.wouldHave(0, HIGH));
    }

    @Says(FIRST)
    static void wouldHaveOrder() {
        LowAir air = withOne();
        out("wouldHave(1, 0)", () -> air.wouldHave(1, 0));
        out("wouldHave(-1, 101)", () -> air.wouldHave(-1, 101));
    }

    @Says("Promise 26: NONE, if it would be DOWN then")
    static void wouldHaveJustEnough() {
        LowAir air = withOne(10);
        ask(air, 0, 1, 0, 1, 0);
        Check.same("in 4 minutes", air.wouldHave(0, 4), 4);
        Check.same("in 5 minutes, with nothing left", air.wouldHave(0, 5), 0);
        Check.same("in 6 minutes", air.wouldHave(0, 6), 3);
    }

    @Says("Promise 26: NONE, if it would be DOWN then")
    static void wouldHaveOneShort() {
        LowAir air = withOne(10);
        ask(air, 0, 1, 0, 1, 0);
        passTo(air, 3);
        air.wind(1, 1);
        Check.same("in 1 minute", air.wouldHave(0, 1), 4);
        Check.same("in 2 minutes", air.wouldHave(0, 2), NONE);
        Check.same("in 100 minutes", air.wouldHave(0, 100), NONE);
        passTo(air, 5);
        Check.same("as it is down", air.wouldHave(0, 1), NONE);
        air.fetch(0);
        Check.same("as it is fetched", air.wouldHave(0, 1), 3);
    }

    @Says("Promise 26: NOW may be above 5000 by that")
    static void wouldHaveAbove5000() {
        LowAir air = withOne(100);
        passTo(air, 5000);
        Check.same("wouldHave(0, 100)", air.wouldHave(0, 100), 100);
        ask(air, 0, 5001, 0, 1, 0);
        Check.same("wouldHave(0, 1)", air.wouldHave(0, 1), 98);
        Check.same("wouldHave(0, 5)", air.wouldHave(0, 5), 90);
        Check.same("wouldHave(0, 100)", air.wouldHave(0, 100), 100);
        Check.same("NOW", air.many(0), 5000);
        flightIs(air, 0, APPROVED);
    }

    @Says("Promise 26: Returns what its CHARGE would be behind them, if all went on so")
    static void wouldHaveOfOneThatLosesItsLink() {
        LowAir air = withPads(12, 10);
        air.craft(0, 0, 100, 0);
        ask(air, 0, 1, 12, 11, 10);
        passTo(air, 3);
        Check.same("with its link, it lands in 10 at 5", air.wouldHave(0, 3), 100 - 2 - 8 + 3);
        air.link(0, false);
        Check.same("without, it is back home at 5", air.wouldHave(0, 2), 100 - 2 - 8);
        Check.same("it gets charge at 6", air.wouldHave(0, 3), 100 - 2 - 8 + 3);
        air.wind(3, 3);
        Check.same("with its way home against the wind", air.wouldHave(0, 2), 100 - 2 - 4 - 7);
        flightIs(air, 0, FLYING);
        passTo(air, 5);
        craftIs(air, 0, LIES, 12, 100 - 2 - 4 - 7);
    }

    @Says("Promise 26: Returns what its CHARGE would be behind them, if all went on so")
    static void wouldHaveWithoutWhatWasAskedBefore() {
        LowAir air = withOne();
        air.wind(3, 3);
        ask(air, 0, 1, 0, 1, 2, 3, 4);
        ask(air, 0, 12, 4, 3, 4);
        passTo(air, 10);
        craftIs(air, 0, LIES, 4, 200 - 30 + 3);
        Check.same("it would land at 16", air.wouldHave(0, 6), 173 + 3 - 2 - 8);
        air.withdraw(1);
        Check.same("it would lie at 16", air.wouldHave(0, 6), 173 + 18);
        Check.same("at 15", air.wouldHave(0, 5), 173 + 15);
    }

    private static LowAir withSixCraft() {
        LowAir air = withCorners();
        for (int i = 0; i < 6; i++) {
            air.craft(0, 0, 10 + 10 * i, 0);
        }
        return air;
    }

    // ---- promise 27: digest

    @Says("Promise 27: d * 31 + v, which wraps around as a 64-bit integer")
    static void digestOfANewObjectWrapsAround() {
        LowAir air = new LowAir();
        Check.same("digest()", air.digest(), digestOf(air, new int[0]));
    }

    @Says("Promise 27: d * 31 + v, which wraps around as a 64-bit integer")
    static void digestWithNoneInIt() {
        LowAir air = withOne();
        air.tower(12, true);
        Check.same("no way", air.way(0, 12), NONE);
        Check.same("digest()", air.digest(), digestOf(air, new int[0]));
    }

    @Says("Promise 27: if the DRAFT is a way from PAD to PAD as said, soonest() of each CRAFT")
    static void digestWithAWay() {
        LowAir air = withTwo();
        draft(air, 0, 1, 0);
        air.zone(0, 0, 1, 1);
        Check.same("digest()", air.digest(), digestOf(air, new int[] {61, 61}));
    }

    @Says("Promise 27: if the DRAFT is a way from PAD to PAD as said, soonest() of each CRAFT")
    static void digestWithAWayButNoCraft() {
        LowAir air = withCorners();
        draft(air, 0, 1, 0);
        Check.same("digest()", air.digest(), digestOf(air, new int[0]));
    }

    @Says("Promise 27: if the DRAFT is a way from PAD to PAD as said, soonest() of each CRAFT")
    static void digestWithADraftThatIsNoWay() {
        int[][] drafts = {{}, {0}, {0, 1}, {1, 0}, {0, 4}, {0, 0}, {0, 1, 2, 3, 4, 9, 14, 19, 24, 23}};
        for (int[] cells : drafts) {
            LowAir air = withOne();
            draft(air, cells);
            Check.same("digest() with " + cells.length, air.digest(), digestOf(air, new int[0]));
        }
    }

    @Says("Promise 27: occupies() of NOW + 3")
    static void digestOfWhatIsOccupied() {
        for (int minute = 5; minute <= 13; minute++) {
            LowAir air = withOne();
            ask(air, 0, 10, 0, 1, 0);
            passTo(air, minute);
            Check.same("digest() at " + minute, air.digest(), digestOf(air, new int[0]));
        }
    }

    @Says("Promise 27: wouldNear() of 12")
    static void digestOfWhatIsNearIn12Minutes() {
        LowAir air = withTwoNearAt27(15);
        Check.same("wouldNear(11)", air.wouldNear(11), 0);
        Check.same("wouldNear(12)", air.wouldNear(12), 1);
        Check.same("wouldNear(13)", air.wouldNear(13), 2);
        Check.same("digest()", air.digest(), digestOf(air, new int[0]));
    }

    @Says("Part 1: NOW is 0 at first, in minutes (5000 at most).")
    static void digestAt5000() {
        LowAir air = withOne();
        passTo(air, 4999);
        ask(air, 0, 5002, 0, 1, 0);
        passTo(air, 5000);
        draft(air, 0, 1, 0);
        Check.same("digest()", air.digest(), digestOf(air, new int[] {5009}));
    }

    /** Computed with numbers that do not wrap around, and cut at the end: its soonest() are given. */
    private static long digestOf(LowAir air, int[] soonest) {
        BigInteger d = BigInteger.valueOf(4813);
        for (int what = 0; what <= 15; what++) {
            d = mixed(d, air.many(what));
        }
        int now = air.many(0);
        for (int cell = 0; cell < 25; cell++) {
            for (int what = 0; what <= 5; what++) {
                d = mixed(d, air.ofCell(cell, what));
            }
            d = mixed(d, air.occupies(cell, now + 3));
        }
        int crafts = air.many(3);
        for (int craft = 0; craft < crafts; craft++) {
            for (int what = 0; what <= 9; what++) {
                d = mixed(d, air.ofCraft(craft, what));
            }
            d = mixed(mixed(d, air.way(craft, 12)), air.cost(craft, 12));
            d = mixed(d, air.wouldHave(craft, 10));
        }
        int flights = air.many(4);
        for (int flight = 0; flight < flights; flight++) {
            for (int what = 0; what <= 4; what++) {
                d = mixed(d, air.ofFlight(flight, what));
            }
        }
        d = mixed(d, air.wouldNear(12));
        for (int start : soonest) {
            d = mixed(d, start);
        }
        return d.longValue();
    }

    private static BigInteger mixed(BigInteger d, int v) {
        return d.multiply(BigInteger.valueOf(31)).add(BigInteger.valueOf(v));
    }
}
