/** The bounds of a minute, one test for each case: promise 14 and part 3 of the terms up to the landing. */
public final class PassBoundsTest extends Scene {
    private static final String MINUTES = "Throws IllegalArgumentException if minutes is not 1 to 100";
    private static final String ABOVE = "Throws IllegalStateException if NOW would be above 5000";
    private static final String STARTS = "if the CRAFT lies on the PAD of the first CELL, with a CHARGE of 2 or more, "
        + "and has its LINK, it starts";
    private static final String MOVES = "one that flies, and started an even number of minutes ago (2 or more), MOVES.";
    private static final String BREAKS = "If its FLIGHT is FLYING, and it has no LINK as it is to MOVE, that is BROKEN "
        + "first.";
    private static final String LANDS = "as it comes into the last one of its row, at its END, it LANDS on the PAD "
        + "there, and the FLIGHT is DONE";
    private static final String HOME = "into another ROW, as long as it is in another one, then into another COLUMN";
    private static final String IS_LOST = "If a MOVE costs more than its CHARGE (by the WIND now), it does not "
        + "MOVE, but is DOWN where it is";

    private PassBoundsTest() {
    }

    public static void main(String[] args) {
        Check.eachOf(PassBoundsTest.class);
        Check.end();
    }

    // ---- how many minutes

    @Says("Promise 14: " + MINUTES)
    static void passOfOneMinute() {
        LowAir air = new LowAir();
        Check.same("pass(1)", air.pass(1), 0);
        Check.same("NOW", air.many(0), 1);
    }

    @Says("Promise 14: " + MINUTES)
    static void passOfAHundredMinutes() {
        LowAir air = new LowAir();
        Check.same("pass(100)", air.pass(100), 0);
        Check.same("NOW", air.many(0), 100);
    }

    @Says("Promise 14: " + MINUTES)
    static void passOfTooFewMinutes() {
        LowAir air = new LowAir();
        argument("pass(0)", () -> air.pass(0));
        argument("pass(-1)", () -> air.pass(-1));
        argument("pass of the least number", () -> air.pass(LOW));
        Check.same("NOW", air.many(0), 0);
    }

    @Says("Promise 14: " + MINUTES)
    static void passOfTooManyMinutes() {
        LowAir air = new LowAir();
        argument("pass(101)", () -> air.pass(101));
        argument("pass of the greatest number", () -> air.pass(HIGH));
        Check.same("NOW", air.many(0), 0);
    }

    @Says("Promise 14: " + ABOVE)
    static void passUpTo5000() {
        LowAir air = new LowAir();
        passTo(air, 4900);
        Check.same("pass(100) at 4900", air.pass(100), 0);
        Check.same("NOW", air.many(0), 5000);
        LowAir other = new LowAir();
        passTo(other, 4999);
        Check.same("pass(1) at 4999", other.pass(1), 0);
        Check.same("NOW", other.many(0), 5000);
    }

    @Says("Promise 14: " + ABOVE)
    static void passUpTo5001() {
        LowAir air = new LowAir();
        passTo(air, 4901);
        state("pass(100) at 4901", () -> air.pass(100));
        Check.same("NOW", air.many(0), 4901);
        Check.same("pass(99) at 4901", air.pass(99), 0);
        Check.same("NOW", air.many(0), 5000);
    }

    @Says("Promise 14: " + ABOVE)
    static void passAt5000() {
        LowAir air = new LowAir();
        passTo(air, 5000);
        state("pass(1)", () -> air.pass(1));
        state("pass(100)", () -> air.pass(100));
        Check.same("NOW", air.many(0), 5000);
    }

    @Says("Terms: If several exceptions apply, the one that is named first is thrown.")
    static void passOrder() {
        LowAir air = new LowAir();
        passTo(air, 5000);
        argument("pass(101) at 5000", () -> air.pass(101));
        argument("pass(0) at 5000", () -> air.pass(0));
    }

    @Says("Promise 14: Returns how many FLIGHTS were DONE in them.")
    static void passReturnsWhatWasDoneInThem() {
        LowAir air = withTwo();
        ask(air, 0, 1, 0, 1, 0);
        ask(air, 1, 1, 4, 3, 4);
        ask(air, 0, 20, 0, 1, 0);
        Check.same("pass(4)", air.pass(4), 0);
        Check.same("pass(1), both at once", air.pass(1), 2);
        Check.same("pass(18)", air.pass(18), 0);
        Check.same("pass(1)", air.pass(1), 1);
        Check.same("pass(100)", air.pass(100), 0);
        LowAir once = withTwo();
        ask(once, 0, 1, 0, 1, 0);
        ask(once, 1, 1, 4, 3, 4);
        ask(once, 0, 20, 0, 1, 0);
        Check.same("all in one call", once.pass(24), 3);
    }

    @Says("Promise 14: Returns how many FLIGHTS were DONE in them.")
    static void passReturnsNoneForWhatIsNotDone() {
        LowAir air = withCorners();
        air.craft(0, 0, 200, 0);
        air.craft(1, 0, 10, 0);
        air.craft(2, 0, 200, 0);
        ask(air, 0, 1, 0, 1, 2, 1, 0);
        ask(air, 1, 1, 4, 9, 4);
        ask(air, 2, 1, 24, 23, 24);
        air.pass(3);
        air.link(0, false);
        air.wind(2, 1);
        air.pass(1);
        Check.same("broken, lost and missed", air.pass(50), 0);
        flightIs(air, 0, BROKEN);
        flightIs(air, 1, LOST);
        flightIs(air, 2, MISSED);
    }

    @Says("Promise 14: Lets minutes go by.")
    static void passOfManyIsAsPassOfOneManyTimes() {
        LowAir one = withTwo();
        ask(one, 0, 2, 0, 1, 2, 3, 4);
        ask(one, 1, 5, 4, 9, 4);
        LowAir many = withTwo();
        ask(many, 0, 2, 0, 1, 2, 3, 4);
        ask(many, 1, 5, 4, 9, 4);
        int done = 0;
        for (int i = 0; i < 30; i++) {
            done += one.pass(1);
        }
        Check.same("done in them", many.pass(30), done);
        Check.same("digest", many.digest(), one.digest());
    }

    // ---- (1) the start

    @Says("Part 3: (1) FLIGHTS that are APPROVED, and have START NOW, by numbers")
    static void startInItsMinute() {
        LowAir air = withOne();
        ask(air, 0, 5, 0, 1, 0);
        passTo(air, 4);
        flightIs(air, 0, APPROVED);
        craftIs(air, 0, LIES, 0, 200);
        Check.same("no flight", air.ofCraft(0, 8), NONE);
        passTo(air, 5);
        flightIs(air, 0, FLYING);
        craftIs(air, 0, FLIES, 0, 198);
        Check.same("its flight", air.ofCraft(0, 8), 0);
    }

    @Says("Part 3: (1) FLIGHTS that are APPROVED, and have START NOW, by numbers")
    static void startOfSeveralInOneMinute() {
        LowAir air = withTwo();
        ask(air, 0, 5, 0, 1, 0);
        ask(air, 1, 5, 4, 3, 4);
        passTo(air, 5);
        flightIs(air, 0, FLYING);
        flightIs(air, 1, FLYING);
    }

    @Says("Part 3: (1) FLIGHTS that are APPROVED, and have START NOW, by numbers")
    static void startOfOneThatIsWithdrawn() {
        LowAir air = withOne();
        ask(air, 0, 5, 0, 1, 0);
        air.withdraw(0);
        passTo(air, 10);
        flightIs(air, 0, WITHDRAWN);
        craftIs(air, 0, LIES, 0, 200);
    }

    @Says("Part 1: NOW is 0 at first, in minutes (5000 at most).")
    static void startInTheLastMinuteOfAll() {
        LowAir air = withOne();
        passTo(air, 4990);
        ask(air, 0, 5000, 0, 1, 0);
        Check.same("another one", ask(air, 0, 5007, 0, 1, 0), 1);
        passTo(air, 5000);
        flightIs(air, 0, FLYING);
        flightIs(air, 1, APPROVED);
    }

    @Says("Part 3: " + STARTS)
    static void startFromThePadOfAnother() {
        LowAir air = withOne();
        ask(air, 0, 1, 0, 1, 2, 3, 4);
        ask(air, 0, 12, 4, 3, 4);
        passTo(air, 12);
        flightIs(air, 1, FLYING);
        craftIs(air, 0, FLIES, 4, 182 + 2 * 3 - 2);
    }

    @Says("Part 3: " + STARTS)
    static void startFromAPadWhereItDoesNotLie() {
        LowAir air = withOne();
        ask(air, 0, 5, 4, 3, 4);
        passTo(air, 5);
        flightIs(air, 0, MISSED);
        craftIs(air, 0, LIES, 0, 200);
    }

    @Says("Part 3: " + STARTS)
    static void startOfOneThatStillFlies() {
        LowAir air = withOneBackAt9();
        draft(air, 0, 1, 0);
        Check.same("ask for 8", air.ask(0, 8), 1);
        passTo(air, 8);
        flightIs(air, 1, MISSED);
        craftIs(air, 0, FLIES, 1, 200 - 2 - 12);
    }

    @Says("Part 3: " + STARTS)
    static void startInTheMinuteOfItsLanding() {
        LowAir air = withOneBackAt9();
        draft(air, 0, 1, 0);
        Check.same("ask for 9", air.ask(0, 9), 1);
        passTo(air, 9);
        flightIs(air, 1, MISSED);
        craftIs(air, 0, LIES, 0, 200 - 2 - 16);
    }

    @Says("Part 3: " + STARTS)
    static void startInTheMinuteBehindItsLanding() {
        LowAir air = withOneBackAt9();
        draft(air, 0, 1, 0);
        Check.same("ask for 10", air.ask(0, 10), 1);
        passTo(air, 10);
        flightIs(air, 1, FLYING);
        craftIs(air, 0, FLIES, 0, 200 - 2 - 16 - 2);
    }

    /** At 7, it is in 1 on its way home with flight 0, that is broken; it has its link again, and lands at 9. */
    private static LowAir withOneBackAt9() {
        LowAir air = withOne();
        ask(air, 0, 1, 0, 1, 2, 3, 4);
        passTo(air, 5);
        air.link(0, false);
        passTo(air, 7);
        air.link(0, true);
        flightIs(air, 0, BROKEN);
        craftIs(air, 0, FLIES, 1, 200 - 2 - 12);
        return air;
    }

    @Says("Part 3: " + STARTS)
    static void startOfOneThatIsDown() {
        LowAir air = withOneDownAt7();
        passTo(air, 50);
        flightIs(air, 1, MISSED);
        craftIs(air, 0, DOWN, 2, 0);
    }

    @Says("Part 3: " + STARTS)
    static void startOfOneThatWasFetchedJustNow() {
        LowAir air = withOneDownAt7();
        passTo(air, 49);
        air.fetch(0);
        passTo(air, 50);
        flightIs(air, 1, MISSED);
        craftIs(air, 0, LIES, 0, 3);
    }

    @Says("Part 3: " + STARTS)
    static void startOfOneThatWasFetchedAMinuteEarlier() {
        LowAir air = withOneDownAt7();
        passTo(air, 48);
        air.fetch(0);
        passTo(air, 49);
        craftIs(air, 0, LIES, 0, 3);
        passTo(air, 50);
        flightIs(air, 1, FLYING);
        craftIs(air, 0, FLIES, 0, 1);
    }

    /** Down in 2 at 7, for a move of 7 with 2 left; flight 1 has its start at 50. */
    private static LowAir withOneDownAt7() {
        LowAir air = withOne(18);
        ask(air, 0, 1, 0, 1, 2, 3, 4);
        ask(air, 0, 50, 0, 1, 0);
        air.wind(3, 3);
        passTo(air, 7);
        craftIs(air, 0, DOWN, 2, 0);
        return air;
    }

    @Says("Part 3: " + STARTS)
    static void startWithAChargeOf2() {
        LowAir air = withLittleAt13(2);
        air.pass(1);
        flightIs(air, 1, FLYING);
        craftIs(air, 0, FLIES, 0, 0);
    }

    @Says("Part 3: " + STARTS)
    static void startWithAChargeOf1() {
        LowAir air = withLittleAt13(1);
        air.pass(1);
        flightIs(air, 1, MISSED);
        craftIs(air, 0, LIES, 0, 4);
    }

    @Says("Part 3: " + STARTS)
    static void startWithAChargeOf0() {
        LowAir air = withLittleAt13(0);
        air.pass(1);
        flightIs(air, 1, MISSED);
        craftIs(air, 0, LIES, 0, 3);
    }

    /** It landed just now at home, flight 0 is broken, and flight 1 has its start in the next minute. */
    private static LowAir withLittleAt13(int left) {
        LowAir air = withOne(26 + left);
        ask(air, 0, 1, 0, 1, 2, 3, 4);
        ask(air, 0, 14, 0, 1, 0);
        passTo(air, 7);
        air.link(0, false);
        passTo(air, 13);
        air.link(0, true);
        craftIs(air, 0, LIES, 0, left);
        return air;
    }

    @Says("Part 3: " + STARTS)
    static void startWithoutItsLink() {
        LowAir air = withOne();
        ask(air, 0, 5, 0, 1, 0);
        passTo(air, 4);
        air.link(0, false);
        passTo(air, 5);
        flightIs(air, 0, MISSED);
        craftIs(air, 0, LIES, 0, 200);
    }

    @Says("Part 3: " + STARTS)
    static void startWithItsLinkAgain() {
        LowAir air = withOne();
        ask(air, 0, 5, 0, 1, 0);
        air.link(0, false);
        passTo(air, 4);
        air.link(0, true);
        passTo(air, 5);
        flightIs(air, 0, FLYING);
    }

    @Says("Part 3: Otherwise the FLIGHT is MISSED.")
    static void missedForGood() {
        LowAir air = withOne();
        air.link(0, false);
        ask(air, 0, 5, 0, 1, 0);
        passTo(air, 5);
        air.link(0, true);
        passTo(air, 50);
        flightIs(air, 0, MISSED);
        craftIs(air, 0, LIES, 0, 200);
    }

    // ---- (2) the moves

    @Says("Part 3: " + MOVES)
    static void noMoveAMinuteBehindTheStart() {
        LowAir air = withOne();
        ask(air, 0, 5, 0, 1, 2, 3, 4);
        passTo(air, 5);
        craftIs(air, 0, FLIES, 0, 198);
        passTo(air, 6);
        craftIs(air, 0, FLIES, 0, 198);
    }

    @Says("Part 3: " + MOVES)
    static void moveTwoMinutesBehindTheStart() {
        LowAir air = withOne();
        ask(air, 0, 5, 0, 1, 2, 3, 4);
        passTo(air, 7);
        craftIs(air, 0, FLIES, 1, 194);
    }

    @Says("Part 3: " + MOVES)
    static void noMoveThreeMinutesBehindTheStart() {
        LowAir air = withOne();
        ask(air, 0, 5, 0, 1, 2, 3, 4);
        passTo(air, 8);
        craftIs(air, 0, FLIES, 1, 194);
        passTo(air, 9);
        craftIs(air, 0, FLIES, 2, 190);
    }

    @Says("Part 3: " + MOVES)
    static void movesOfAStartAtAnEvenMinute() {
        LowAir air = withOne();
        ask(air, 0, 6, 0, 1, 2, 3, 4);
        passTo(air, 7);
        craftIs(air, 0, FLIES, 0, 198);
        passTo(air, 8);
        craftIs(air, 0, FLIES, 1, 194);
    }

    @Says("Part 3: it MOVES into the next CELL of that (a TOWER there or not)")
    static void moveOverATower() {
        LowAir air = withOne();
        ask(air, 0, 5, 0, 1, 0);
        passTo(air, 6);
        air.tower(1, true);
        passTo(air, 7);
        craftIs(air, 0, FLIES, 1, 194);
        passTo(air, 9);
        flightIs(air, 0, DONE);
    }

    @Says("Part 3: " + LANDS)
    static void landingAtItsEnd() {
        LowAir air = withOne();
        ask(air, 0, 5, 0, 1, 2, 3, 4);
        passTo(air, 12);
        flightIs(air, 0, FLYING);
        craftIs(air, 0, FLIES, 3, 186);
        passTo(air, 13);
        flightIs(air, 0, DONE);
        craftIs(air, 0, LIES, 4, 182);
        Check.same("no flight", air.ofCraft(0, 8), NONE);
    }

    @Says("Part 3: " + LANDS)
    static void landingOfTheShortestFlight() {
        LowAir air = withPads(0, 1);
        air.craft(0, 0, 200, 0);
        ask(air, 0, 1, 0, 1);
        passTo(air, 2);
        flightIs(air, 0, FLYING);
        passTo(air, 3);
        flightIs(air, 0, DONE);
        craftIs(air, 0, LIES, 1, 194);
    }

    @Says("Part 3: " + LANDS)
    static void landingOfTheLongestFlight() {
        LowAir air = withPads(0, 5);
        air.craft(0, 0, 200, 0);
        ask(air, 0, 1, 0, 1, 2, 3, 8, 13, 12, 11, 10, 5);
        passTo(air, 18);
        flightIs(air, 0, FLYING);
        craftIs(air, 0, FLIES, 10, 200 - 2 - 32);
        passTo(air, 19);
        flightIs(air, 0, DONE);
        craftIs(air, 0, LIES, 5, 200 - 2 - 36);
    }

    @Says("Part 3: " + LANDS)
    static void noLandingInTheLastCellAheadOfItsEnd() {
        LowAir air = withOne();
        ask(air, 0, 1, 0, 1, 0, 5, 0);
        passTo(air, 5);
        flightIs(air, 0, FLYING);
        craftIs(air, 0, FLIES, 0, 190);
        passTo(air, 9);
        flightIs(air, 0, DONE);
        craftIs(air, 0, LIES, 0, 182);
    }

    @Says("Part 3: " + LANDS)
    static void noLandingOnOtherPadsOfItsRow() {
        LowAir air = withPads(0, 1, 2);
        air.craft(0, 0, 200, 0);
        ask(air, 0, 1, 0, 1, 2);
        passTo(air, 3);
        flightIs(air, 0, FLYING);
        craftIs(air, 0, FLIES, 1, 194);
    }

    // ---- (2) broken flights

    @Says("Part 3: " + BREAKS)
    static void noLinkBetweenTwoMoves() {
        LowAir air = withOne();
        ask(air, 0, 1, 0, 1, 2, 3, 4);
        passTo(air, 3);
        air.link(0, false);
        passTo(air, 4);
        flightIs(air, 0, FLYING);
        air.link(0, true);
        passTo(air, 5);
        flightIs(air, 0, FLYING);
        craftIs(air, 0, FLIES, 2, 190);
    }

    @Says("Part 3: " + BREAKS)
    static void noLinkAsItIsToMove() {
        LowAir air = withOne();
        ask(air, 0, 1, 0, 1, 2, 3, 4);
        passTo(air, 4);
        air.link(0, false);
        passTo(air, 5);
        flightIs(air, 0, BROKEN);
        // Back home at once, in the same minute.
        craftIs(air, 0, LIES, 0, 190);
    }

    @Says("Part 3: " + BREAKS)
    static void noLinkAsItIsToMoveIntoItsLastCell() {
        LowAir air = withOne();
        ask(air, 0, 1, 0, 1, 2, 3, 4);
        passTo(air, 8);
        air.link(0, false);
        Check.same("none is done", air.pass(1), 0);
        flightIs(air, 0, BROKEN);
        craftIs(air, 0, FLIES, 2, 182);
        Check.same("its flight", air.ofCraft(0, 8), 0);
    }

    @Says("Part 3: " + BREAKS)
    static void linkAgainBehindTheBreak() {
        LowAir air = withOne();
        ask(air, 0, 1, 0, 1, 2, 3, 4);
        passTo(air, 6);
        air.link(0, false);
        passTo(air, 7);
        air.link(0, true);
        passTo(air, 9);
        flightIs(air, 0, BROKEN);
        craftIs(air, 0, LIES, 0, 182);
    }

    @Says("Part 3: 5 BROKEN (also behind its landing)")
    static void brokenBehindItsLanding() {
        LowAir air = withOne();
        ask(air, 0, 1, 0, 1, 2, 3, 4);
        passTo(air, 4);
        air.link(0, false);
        passTo(air, 100);
        flightIs(air, 0, BROKEN);
        craftIs(air, 0, LIES, 0, 200);
        Check.same("no flight", air.ofCraft(0, 8), NONE);
    }

    @Says("Part 3: if it is in the CELL of its home PAD, it LANDS there, without a MOVE")
    static void brokenAtHome() {
        LowAir air = withOne();
        ask(air, 0, 1, 0, 1, 0);
        passTo(air, 2);
        air.link(0, false);
        passTo(air, 3);
        flightIs(air, 0, BROKEN);
        craftIs(air, 0, LIES, 0, 198);
    }

    @Says("Part 3: if it is in the CELL of its home PAD, it LANDS there, without a MOVE")
    static void brokenAtHomeWithoutCharge() {
        LowAir air = withLittleAt13(2);
        passTo(air, 14);
        craftIs(air, 0, FLIES, 0, 0);
        air.link(0, false);
        passTo(air, 16);
        flightIs(air, 1, BROKEN);
        craftIs(air, 0, LIES, 0, 0);
    }

    @Says("Part 3: if it is in the CELL of its home PAD, it LANDS there, without a MOVE")
    static void brokenOverItsHomeOnItsWay() {
        LowAir air = withPads(5, 7, 0);
        air.craft(2, 0, 200, 0);
        Check.same("to 7", ask(air, 0, 1, 0, 1, 2, 7), 0);
        Check.same("back over 0 to 5", ask(air, 0, 10, 7, 6, 1, 0, 5), 1);
        passTo(air, 16);
        craftIs(air, 0, FLIES, 0, 200 - 14 + 6 - 14);
        air.link(0, false);
        passTo(air, 18);
        flightIs(air, 1, BROKEN);
        craftIs(air, 0, LIES, 0, 200 - 14 + 6 - 14);
    }

    @Says("Part 3: " + HOME)
    static void homeFromTheNorthWest() {
        LowAir air = withPads(12, 0);
        air.craft(0, 0, 200, 0);
        ask(air, 0, 1, 12, 7, 2, 1, 0);
        breaksAt(air, 7);
        goesBy(air, 9, 6, 11, 12);
    }

    @Says("Part 3: " + HOME)
    static void homeFromTheSouthEast() {
        LowAir air = withPads(12, 24);
        air.craft(0, 0, 200, 0);
        ask(air, 0, 1, 12, 17, 22, 23, 24);
        breaksAt(air, 7);
        goesBy(air, 9, 18, 13, 12);
    }

    @Says("Part 3: " + HOME)
    static void homeFromTheNorthEast() {
        LowAir air = withPads(12, 4);
        air.craft(0, 0, 200, 0);
        ask(air, 0, 1, 12, 7, 8, 3, 4, 9, 8, 3, 4);
        breaksAt(air, 9);
        goesBy(air, 11, 9, 14, 13, 12);
    }

    @Says("Part 3: " + HOME)
    static void homeFromTheSouthWest() {
        LowAir air = withPads(12, 20);
        air.craft(0, 0, 200, 0);
        ask(air, 0, 1, 12, 17, 16, 21, 20, 15, 16, 21, 20);
        breaksAt(air, 9);
        goesBy(air, 11, 15, 10, 11, 12);
    }

    @Says("Part 3: " + HOME)
    static void homeAlongItsOwnRow() {
        LowAir air = withPads(14, 10);
        air.craft(0, 0, 200, 0);
        ask(air, 0, 1, 14, 13, 12, 11, 10);
        breaksAt(air, 7);
        goesBy(air, 9, 12, 13, 14);
    }

    @Says("Part 3: " + HOME)
    static void homeAlongItsOwnColumn() {
        LowAir air = withPads(22, 2);
        air.craft(0, 0, 200, 0);
        ask(air, 0, 1, 22, 17, 12, 7, 2);
        breaksAt(air, 7);
        goesBy(air, 9, 12, 17, 22);
    }

    @Says("Part 3: otherwise it MOVES one CELL nearer to that")
    static void homeFromAPadThatIsNotItsHome() {
        LowAir air = withOne();
        ask(air, 0, 1, 0, 1, 2, 3, 4);
        ask(air, 0, 12, 4, 9, 4);
        breaksAt(air, 12);
        goesBy(air, 14, 3, 2, 1, 0);
    }

    @Says("Part 3: TOWERS and ZONES do not matter")
    static void homeOverTowersAndZones() {
        LowAir air = withPads(12, 0);
        air.craft(0, 0, 200, 0);
        ask(air, 0, 1, 12, 7, 2, 1, 0);
        breaksAt(air, 7);
        air.tower(6, true);
        air.tower(11, true);
        air.zone(6, 0, 0, 4);
        air.zone(12, 0, 0, 4);
        goesBy(air, 9, 6, 11, 12);
        Check.same("its breaches", air.ofCraft(0, 9), 2);
    }

    @Says("Part 3: and LANDS, if it is there then")
    static void homeInTheMinuteOfItsLastMove() {
        LowAir air = withOne();
        ask(air, 0, 1, 0, 1, 2, 3, 4);
        breaksAt(air, 5);
        passTo(air, 8);
        craftIs(air, 0, FLIES, 1, 186);
        passTo(air, 9);
        craftIs(air, 0, LIES, 0, 182);
    }

    /** Its link is off behind a move, so that the next one breaks the flight. */
    private static void breaksAt(LowAir air, int minute) {
        passTo(air, minute);
        air.link(0, false);
    }

    /** From a minute on, each second minute one cell further; it lands in the last one, and in none of the others. */
    private static void goesBy(LowAir air, int minute, int... cells) {
        for (int i = 0; i < cells.length; i++) {
            passTo(air, minute + 2 * i);
            Check.same("the cell at " + (minute + 2 * i), air.ofCraft(0, 7), cells[i]);
            Check.same("it flies", air.ofCraft(0, 6), i < cells.length - 1 ? FLIES : LIES);
        }
        Check.same("broken flights", air.many(11), 1);
    }

    // ---- (2) lost flights

    @Says("Part 3: " + IS_LOST)
    static void moveForJustItsCharge() {
        LowAir air = withFourLeftAt3();
        passTo(air, 5);
        flightIs(air, 0, DONE);
        craftIs(air, 0, LIES, 0, 0);
    }

    @Says("Part 3: " + IS_LOST)
    static void moveForOneMoreThanItsCharge() {
        LowAir air = withFourLeftAt3();
        air.wind(1, 1);
        passTo(air, 5);
        flightIs(air, 0, LOST);
        craftIs(air, 0, DOWN, 1, 0);
        Check.same("no flight", air.ofCraft(0, 8), NONE);
    }

    @Says("Part 3: (by the WIND now)")
    static void moveByTheWindOfNow() {
        LowAir air = withFourLeftAt3();
        air.wind(1, 3);
        passTo(air, 4);
        air.wind(3, 1);
        passTo(air, 5);
        flightIs(air, 0, DONE);
        craftIs(air, 0, LIES, 0, 1);
    }

    /** Battery 10: in 1 at 3, with the way back still to go. */
    private static LowAir withFourLeftAt3() {
        LowAir air = withOne(10);
        ask(air, 0, 1, 0, 1, 0);
        passTo(air, 3);
        craftIs(air, 0, FLIES, 1, 4);
        return air;
    }

    @Says("Part 3: " + IS_LOST)
    static void firstMoveWithoutAnyCharge() {
        LowAir air = withLittleAt13(2);
        passTo(air, 15);
        craftIs(air, 0, FLIES, 0, 0);
        air.wind(1, 3);
        passTo(air, 16);
        flightIs(air, 1, LOST);
        craftIs(air, 0, DOWN, 0, 0);
    }

    @Says("Part 3: " + IS_LOST)
    static void brokenWithJustEnough() {
        LowAir air = withFourLeftAt7();
        passTo(air, 9);
        flightIs(air, 0, BROKEN);
        craftIs(air, 0, LIES, 0, 0);
    }

    @Says("Part 3: " + IS_LOST)
    static void brokenWithOneShort() {
        LowAir air = withFourLeftAt7();
        air.wind(1, 1);
        passTo(air, 9);
        flightIs(air, 0, LOST);
        craftIs(air, 0, DOWN, 1, 0);
    }

    /** Battery 18: broken, it is in 1 at 7, one move from home. */
    private static LowAir withFourLeftAt7() {
        LowAir air = withOne(18);
        ask(air, 0, 1, 0, 1, 2, 1, 0);
        breaksAt(air, 5);
        passTo(air, 7);
        flightIs(air, 0, BROKEN);
        craftIs(air, 0, FLIES, 1, 4);
        return air;
    }

    @Says("Part 3: " + BREAKS)
    static void brokenAndLostInOneMinute() {
        LowAir air = withOne(18);
        ask(air, 0, 1, 0, 1, 2, 3, 4);
        breaksAt(air, 7);
        craftIs(air, 0, FLIES, 3, 4);
        air.wind(1, 1);
        // Onwards, it would have been 3.
        passTo(air, 9);
        flightIs(air, 0, LOST);
        craftIs(air, 0, DOWN, 3, 0);
        Check.same("broken flights", air.many(11), 0);
    }

    @Says("Part 3: DOWN where it is, with a CHARGE of 0, and its FLIGHT is LOST")
    static void downForGood() {
        LowAir air = withFourLeftAt3();
        air.wind(1, 1);
        passTo(air, 200);
        flightIs(air, 0, LOST);
        craftIs(air, 0, DOWN, 1, 0);
    }
}
