/** The bounds of asking for flights and withdrawing them, one test for each case: promises 12 and 13. */
public final class AskBoundsTest extends Scene {
    private static final String START = "Throws IllegalArgumentException if start is not later than NOW, "
        + "or more than 2000 minutes later";
    private static final String NO_WAY = "Throws IllegalStateException if the DRAFT is no way from PAD to PAD as said, "
        + "or there were 12";
    private static final String NEIGHBOURS = "each one a NEIGHBOUR of the one ahead of it";
    private static final String ON_PADS = "the first and the last one with a PAD";

    private AskBoundsTest() {
    }

    public static void main(String[] args) {
        Check.eachOf(AskBoundsTest.class);
        Check.end();
    }

    // ---- the craft

    @Says("Promise 12: Throws IndexOutOfBoundsException if there is no such CRAFT")
    static void askWithoutAnyCraft() {
        LowAir air = withCorners();
        draft(air, 0, 1, 0);
        out("ask(0, 1)", () -> air.ask(0, 1));
    }

    @Says("Promise 12: Throws IndexOutOfBoundsException if there is no such CRAFT")
    static void askOfTheFirstAndTheLastCraft() {
        LowAir air = withSixCraft();
        Check.same("ask(0, 1)", ask(air, 0, 1, 0, 1, 0), 0);
        Check.same("ask(5, 100)", ask(air, 5, 100, 0, 1, 0), 1);
        Check.same("craft of flight 0", air.ofFlight(0, 1), 0);
        Check.same("craft of flight 1", air.ofFlight(1, 1), 5);
    }

    @Says("Promise 12: Throws IndexOutOfBoundsException if there is no such CRAFT")
    static void askBelowTheFirstCraft() {
        LowAir air = withOne();
        draft(air, 0, 1, 0);
        out("ask(-1, 1)", () -> air.ask(-1, 1));
        out("ask of the least number", () -> air.ask(LOW, 1));
    }

    @Says("Promise 12: Throws IndexOutOfBoundsException if there is no such CRAFT")
    static void askBehindTheLastCraft() {
        LowAir air = withOne();
        draft(air, 0, 1, 0);
        out("ask(1, 1)", () -> air.ask(1, 1));
        out("ask of the greatest number", () -> air.ask(HIGH, 1));
        LowAir full = withSixCraft();
        draft(full, 0, 1, 0);
        out("ask(6, 1)", () -> full.ask(6, 1));
    }

    private static LowAir withSixCraft() {
        LowAir air = withCorners();
        for (int i = 0; i < 6; i++) {
            air.craft(0, 0, 200, 0);
        }
        return air;
    }

    // ---- the start

    @Says("Promise 12: " + START)
    static void askForNow() {
        LowAir air = withOne();
        draft(air, 0, 1, 0);
        argument("ask(0, 0) at 0", () -> air.ask(0, 0));
        air.pass(70);
        argument("ask(0, 70) at 70", () -> air.ask(0, 70));
    }

    @Says("Promise 12: " + START)
    static void askForTheNextMinute() {
        LowAir air = withOne();
        air.pass(70);
        Check.same("ask(0, 71) at 70", ask(air, 0, 71, 0, 1, 0), 0);
        air.pass(1);
        flightIs(air, 0, FLYING);
    }

    @Says("Promise 12: " + START)
    static void askForTheFirstMinuteOfAll() {
        LowAir air = withOne();
        Check.same("ask(0, 1) at 0", ask(air, 0, 1, 0, 1, 0), 0);
    }

    @Says("Promise 12: " + START)
    static void askForWhatIsPast() {
        LowAir air = withOne();
        air.pass(70);
        draft(air, 0, 1, 0);
        argument("ask(0, 69) at 70", () -> air.ask(0, 69));
        argument("ask(0, 0) at 70", () -> air.ask(0, 0));
        argument("ask(0, -1) at 70", () -> air.ask(0, -1));
        argument("ask for the least number", () -> air.ask(0, LOW));
    }

    @Says("Promise 12: " + START)
    static void askFor2000MinutesLater() {
        LowAir air = withOne();
        Check.same("ask(0, 2000) at 0", ask(air, 0, 2000, 0, 1, 0), 0);
        air.pass(70);
        Check.same("ask(0, 2070) at 70", ask(air, 0, 2070, 0, 1, 0), 1);
    }

    @Says("Promise 12: " + START)
    static void askFor2001MinutesLater() {
        LowAir air = withOne();
        draft(air, 0, 1, 0);
        argument("ask(0, 2001) at 0", () -> air.ask(0, 2001));
        air.pass(70);
        argument("ask(0, 2071) at 70", () -> air.ask(0, 2071));
        argument("ask for the greatest number", () -> air.ask(0, HIGH));
    }

    @Says("Part 1: NOW is 0 at first, in minutes (5000 at most).")
    static void askForWhatIsAbove5000() {
        LowAir air = withOne();
        passTo(air, 5000);
        draft(air, 0, 1, 0);
        argument("ask(0, 5000) at 5000", () -> air.ask(0, 5000));
        argument("ask(0, 7001) at 5000", () -> air.ask(0, 7001));
        Check.same("ask(0, 5001) at 5000", air.ask(0, 5001), 0);
        Check.same("ask(0, 7000) at 5000", ask(air, 0, 7000, 0, 1, 0), 1);
        Check.same("its end", air.ofFlight(1, 3), 7004);
    }

    // ---- the draft

    @Says("Part 2: of which there are 2 or more")
    static void askWithAnEmptyDraft() {
        LowAir air = withOne();
        state("ask(0, 1)", () -> air.ask(0, 1));
        Check.same("many(4)", air.many(4), 0);
    }

    @Says("Part 2: of which there are 2 or more")
    static void askWithOneCell() {
        LowAir air = withOne();
        draft(air, 0);
        state("ask(0, 1)", () -> air.ask(0, 1));
    }

    @Says("Part 2: of which there are 2 or more")
    static void askWithTwoCells() {
        LowAir air = withPads(0, 1);
        air.craft(0, 0, 10, 0);
        Check.same("ask(0, 1)", ask(air, 0, 1, 0, 1), 0);
        Check.same("its cells", air.ofFlight(0, 4), 2);
        Check.same("its end", air.ofFlight(0, 3), 3);
    }

    @Says("Part 2: The DRAFT is a row of at most 10 CELLS")
    static void askWithTenCells() {
        LowAir air = withPads(0, 5);
        air.craft(0, 0, 200, 0);
        Check.same("ask(0, 1)", ask(air, 0, 1, 0, 1, 2, 3, 8, 13, 12, 11, 10, 5), 0);
        Check.same("its cells", air.ofFlight(0, 4), 10);
        Check.same("its end", air.ofFlight(0, 3), 19);
    }

    @Says("Part 2: " + ON_PADS)
    static void askWithoutAPadAtTheFirstCell() {
        noWay(withOne(), 1, 0);
        noWay(withOne(), 1, 2, 3, 4);
    }

    @Says("Part 2: " + ON_PADS)
    static void askWithoutAPadAtTheLastCell() {
        noWay(withOne(), 0, 1);
        noWay(withOne(), 0, 1, 2, 3);
    }

    @Says("Part 2: " + ON_PADS)
    static void askWithoutAPadAtAll() {
        noWay(withOne(), 1, 2);
        noWay(withOne(), 6, 7, 8);
    }

    @Says("Part 2: " + ON_PADS)
    static void askFromAPadThatIsNotWhereTheCraftLies() {
        LowAir air = withOne();
        Check.same("ask(0, 1)", ask(air, 0, 1, 4, 3, 4), 0);
    }

    @Says("Part 2: " + ON_PADS)
    static void askOverPadsOnTheWay() {
        LowAir air = withPads(0, 1, 2);
        air.craft(0, 0, 200, 0);
        Check.same("ask(0, 1)", ask(air, 0, 1, 0, 1, 2, 1, 0), 0);
    }

    @Says("Part 2: " + NEIGHBOURS)
    static void askWithTheSameCellTwice() {
        noWay(withOne(), 0, 0);
        noWay(withOne(), 0, 1, 1, 0);
    }

    @Says("Part 2: " + NEIGHBOURS)
    static void askWithTwoCellsApartInARow() {
        noWay(withPadsAndOne(10, 12), 10, 12);
        noWay(withPadsAndOne(10, 14), 10, 14);
    }

    @Says("Part 2: " + NEIGHBOURS)
    static void askWithTwoCellsApartInAColumn() {
        noWay(withPadsAndOne(2, 12), 2, 12);
        noWay(withPadsAndOne(2, 22), 2, 22);
    }

    @Says("Part 1: in the same ROW whose COLUMNS differ by 1")
    static void askFromTheEndOfARowToTheNextRow() {
        noWay(withPadsAndOne(4, 5), 4, 5);
        noWay(withPadsAndOne(5, 4), 5, 4);
        noWay(withPadsAndOne(19, 20), 19, 20);
        noWay(withPadsAndOne(20, 19), 20, 19);
    }

    @Says("Part 1: NEIGHBOURS are two in the same COLUMN whose ROWS differ by 1")
    static void askSlantwise() {
        noWay(withPadsAndOne(6, 12), 6, 12);
        noWay(withPadsAndOne(8, 12), 8, 12);
        noWay(withPadsAndOne(16, 12), 16, 12);
        noWay(withPadsAndOne(18, 12), 18, 12);
    }

    @Says("Part 1: NEIGHBOURS are two in the same COLUMN whose ROWS differ by 1")
    static void askWithNeighboursOnEachSide() {
        for (int cell : new int[] {7, 13, 17, 11}) {
            LowAir air = withPadsAndOne(12, cell);
            Check.same("from 12 to " + cell, ask(air, 0, 1, 12, cell), 0);
            LowAir back = withPadsAndOne(12, cell);
            Check.same("from " + cell + " to 12", ask(back, 0, 1, cell, 12), 0);
        }
    }

    @Says("Part 2: " + NEIGHBOURS)
    static void askWithTheLastStepWrong() {
        noWay(withOne(), 0, 1, 2, 4);
        noWay(withOne(), 0, 1, 2, 3, 8, 4);
    }

    private static LowAir withPadsAndOne(int... cells) {
        LowAir air = withPads(cells);
        air.craft(0, 0, 200, 0);
        return air;
    }

    private static void noWay(LowAir air, int... cells) {
        draft(air, cells);
        String text = java.util.Arrays.toString(cells);
        state("ask with " + text, () -> air.ask(0, 1));
        Check.same("no flight by it", air.many(4), 0);
        Check.same("the draft is kept", air.many(5), cells.length);
    }

    // ---- how many flights

    @Says("Part 2: A FLIGHT (at most 12 ever, numbered from 0)")
    static void twelveFlights() {
        LowAir air = withTwelve();
        Check.same("many(4)", air.many(4), 12);
        Check.same("start of the first", air.ofFlight(0, 2), 10);
        Check.same("start of the last", air.ofFlight(11, 2), 120);
    }

    @Says("Promise 12: " + NO_WAY)
    static void aThirteenthFlight() {
        LowAir air = withTwelve();
        draft(air, 0, 1, 0);
        state("ask(0, 500)", () -> air.ask(0, 500));
        Check.same("many(4)", air.many(4), 12);
        Check.same("the draft is kept", air.many(5), 3);
    }

    @Says("Part 2: A FLIGHT (at most 12 ever, numbered from 0)")
    static void aThirteenthFlightBehindWithdrawals() {
        LowAir air = withTwelve();
        for (int i = 0; i < 12; i++) {
            air.withdraw(i);
        }
        draft(air, 0, 1, 0);
        state("ask(0, 500)", () -> air.ask(0, 500));
    }

    @Says("Part 2: A FLIGHT (at most 12 ever, numbered from 0)")
    static void aThirteenthFlightBehindAllOthers() {
        LowAir air = withTwelve();
        passTo(air, 200);
        Check.same("all are done", air.many(8), 12);
        draft(air, 0, 1, 0);
        state("ask(0, 500)", () -> air.ask(0, 500));
    }

    @Says("Promise 12: " + NO_WAY)
    static void aThirteenthFlightWithAReason() {
        LowAir air = withTwelve();
        air.tower(1, true);
        draft(air, 0, 1, 0);
        state("ask(0, 500)", () -> air.ask(0, 500));
        Check.same("why(0, 500)", air.why(0, 500), 1);
    }

    @Says("Part 2: A FLIGHT (at most 12 ever, numbered from 0)")
    static void whatIsRefusedDoesNotCount() {
        LowAir air = withOne();
        air.tower(2, true);
        for (int i = 0; i < 12; i++) {
            Check.same("with a tower", ask(air, 0, 10, 0, 1, 2, 3, 4), -2);
        }
        Check.same("many(4)", air.many(4), 0);
        Check.same("without", ask(air, 0, 10, 0, 1, 0), 0);
    }

    private static LowAir withTwelve() {
        LowAir air = withOne();
        for (int i = 0; i < 12; i++) {
            Check.same("flight " + i, ask(air, 0, 10 + 10 * i, 0, 1, 0), i);
        }
        return air;
    }

    // ---- which exception goes first

    @Says("Terms: If several exceptions apply, the one that is named first is thrown.")
    static void askOrderOfCraft() {
        LowAir air = withTwelve();
        out("craft, start and draft are wrong, and there were 12", () -> air.ask(1, 0));
        out("craft and draft are wrong, and there were 12", () -> air.ask(-1, 500));
        LowAir other = withOne();
        out("craft and start are wrong", () -> other.ask(1, 0));
        draft(other, 0, 1, 0);
        out("craft and start are wrong, not the draft", () -> other.ask(1, 2001));
    }

    @Says("Terms: If several exceptions apply, the one that is named first is thrown.")
    static void askOrderOfStart() {
        LowAir air = withTwelve();
        argument("start and draft are wrong, and there were 12", () -> air.ask(0, 0));
        draft(air, 0, 1, 0);
        argument("the start is wrong, and there were 12", () -> air.ask(0, 2001));
        LowAir other = withOne();
        argument("start and draft are wrong", () -> other.ask(0, 0));
    }

    // ---- what the draft is behind it

    @Says("Promise 12: that is cleared, if it is APPROVED")
    static void draftIsClearedByAnApproval() {
        LowAir air = withOne();
        Check.same("ask(0, 1)", ask(air, 0, 1, 0, 1, 0), 0);
        Check.same("many(5)", air.many(5), 0);
        Check.same("draft(4)", air.draft(4), 1);
    }

    @Says("Promise 12: that is cleared, if it is APPROVED")
    static void draftIsKeptByAReason() {
        LowAir air = withOne();
        air.tower(1, true);
        Check.same("ask(0, 1)", ask(air, 0, 1, 0, 1, 0), -2);
        Check.same("many(5)", air.many(5), 3);
        air.tower(1, false);
        Check.same("ask(0, 1) again", air.ask(0, 1), 0);
    }

    @Says("Terms: A method that throws an exception changes nothing.")
    static void draftIsKeptByAnException() {
        LowAir air = withOne();
        draft(air, 0, 1, 0);
        out("ask(1, 1)", () -> air.ask(1, 1));
        argument("ask(0, 0)", () -> air.ask(0, 0));
        Check.same("many(5)", air.many(5), 3);
        Check.same("ask(0, 1)", air.ask(0, 1), 0);
    }

    @Says("Part 2: along the CELLS of the DRAFT")
    static void flightKeepsItsCellsAsTheDraftChanges() {
        LowAir air = withOne();
        ask(air, 0, 1, 0, 1, 2, 3, 4);
        draft(air, 0, 5, 10, 15, 20);
        Check.same("occupies(2, 5)", air.occupies(2, 5), 0);
        Check.same("occupies(10, 5)", air.occupies(10, 5), NONE);
        passTo(air, 9);
        craftIs(air, 0, LIES, 4, 182);
    }

    // ---- promise 13: withdraw

    @Says("Promise 13: Throws IndexOutOfBoundsException if there is no such FLIGHT")
    static void withdrawWithoutAnyFlight() {
        LowAir air = withOne();
        out("withdraw(0)", () -> air.withdraw(0));
    }

    @Says("Promise 13: Throws IndexOutOfBoundsException if there is no such FLIGHT")
    static void withdrawTheFirstAndTheLastFlight() {
        LowAir air = withTwelve();
        Check.same("withdraw(0)", air.withdraw(0), 10);
        Check.same("withdraw(11)", air.withdraw(11), 120);
        flightIs(air, 0, WITHDRAWN);
        flightIs(air, 1, APPROVED);
        flightIs(air, 10, APPROVED);
        flightIs(air, 11, WITHDRAWN);
    }

    @Says("Promise 13: Throws IndexOutOfBoundsException if there is no such FLIGHT")
    static void withdrawBelowTheFirstFlight() {
        LowAir air = withTwelve();
        out("withdraw(-1)", () -> air.withdraw(-1));
        out("withdraw of the least number", () -> air.withdraw(LOW));
    }

    @Says("Promise 13: Throws IndexOutOfBoundsException if there is no such FLIGHT")
    static void withdrawBehindTheLastFlight() {
        LowAir air = withOne();
        ask(air, 0, 1, 0, 1, 0);
        out("withdraw(1)", () -> air.withdraw(1));
        LowAir full = withTwelve();
        out("withdraw(12)", () -> full.withdraw(12));
        out("withdraw of the greatest number", () -> full.withdraw(HIGH));
    }

    @Says("Promise 13: Throws IllegalStateException if it is not APPROVED")
    static void withdrawInTheLastMinute() {
        LowAir air = withOne();
        ask(air, 0, 5, 0, 1, 0);
        passTo(air, 4);
        Check.same("withdraw(0)", air.withdraw(0), 5);
        air.pass(1);
        flightIs(air, 0, WITHDRAWN);
        craftIs(air, 0, LIES, 0, 200);
    }

    @Says("Promise 13: Throws IllegalStateException if it is not APPROVED")
    static void withdrawOneThatFlies() {
        LowAir air = withOne();
        ask(air, 0, 5, 0, 1, 0);
        passTo(air, 5);
        flightIs(air, 0, FLYING);
        state("withdraw(0)", () -> air.withdraw(0));
    }

    @Says("Promise 13: Throws IllegalStateException if it is not APPROVED")
    static void withdrawOneThatIsDone() {
        LowAir air = withOne();
        ask(air, 0, 5, 0, 1, 0);
        passTo(air, 9);
        flightIs(air, 0, DONE);
        state("withdraw(0)", () -> air.withdraw(0));
    }

    @Says("Promise 13: Throws IllegalStateException if it is not APPROVED")
    static void withdrawOneThatIsWithdrawn() {
        LowAir air = withOne();
        ask(air, 0, 5, 0, 1, 0);
        air.withdraw(0);
        state("withdraw(0) again", () -> air.withdraw(0));
    }

    @Says("Promise 13: Throws IllegalStateException if it is not APPROVED")
    static void withdrawOneThatIsMissed() {
        LowAir air = withOne();
        ask(air, 0, 5, 4, 3, 4);
        passTo(air, 5);
        flightIs(air, 0, MISSED);
        state("withdraw(0)", () -> air.withdraw(0));
    }

    @Says("Promise 13: Throws IllegalStateException if it is not APPROVED")
    static void withdrawOneThatIsBroken() {
        LowAir air = withOne();
        ask(air, 0, 5, 0, 1, 2, 3, 4);
        passTo(air, 7);
        air.link(0, false);
        passTo(air, 9);
        flightIs(air, 0, BROKEN);
        state("withdraw(0) as it flies", () -> air.withdraw(0));
        passTo(air, 20);
        state("withdraw(0) behind its landing", () -> air.withdraw(0));
    }

    @Says("Promise 13: Throws IllegalStateException if it is not APPROVED")
    static void withdrawOneThatIsLost() {
        LowAir air = withOne(10);
        ask(air, 0, 5, 0, 1, 0);
        passTo(air, 7);
        air.wind(1, 1);
        passTo(air, 9);
        flightIs(air, 0, LOST);
        state("withdraw(0)", () -> air.withdraw(0));
    }
}
