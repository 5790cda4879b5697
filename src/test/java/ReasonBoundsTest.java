/** The bounds of the six REASONS against a FLIGHT, one test for each case. */
public final class ReasonBoundsTest extends Scene {
    private static final String ZONE = "2 A ZONE of one of its CELLS is shut for the CRAFT in a minute in which it "
        + "OCCUPIES that.";
    private static final String OTHERS = "3 A FLIGHT of another CRAFT that is APPROVED or FLYING OCCUPIES a CELL in a "
        + "minute in which it does.";
    private static final String SAME = "4 A FLIGHT of the same CRAFT that is APPROVED or FLYING";
    private static final String BEHIND = "has a START no later than 2 minutes behind its END";
    private static final String AHEAD = "and an END no earlier than 2 minutes ahead of its START";
    private static final String CHARGE = "its start and MOVES cost more than the CHARGE of the CRAFT now";
    private static final String NOISE = "6 Some CELL of its row would have more than 60 of PLANNED noise on the day of "
        + "its START, with it";
    private static final String PLANNED = "of each FLIGHT that is APPROVED, FLYING or DONE, and has its START on that "
        + "day";

    private ReasonBoundsTest() {
    }

    public static void main(String[] args) {
        Check.eachOf(ReasonBoundsTest.class);
        Check.end();
    }

    // ---- none, and 1: towers

    @Says("Part 2: Without a REASON (0) it is APPROVED.")
    static void noReason() {
        LowAir air = withOne();
        Check.same("why", why(air, 0, 5, 0, 1, 2, 3, 4), 0);
        Check.same("ask", air.ask(0, 5), 0);
        flightIs(air, 0, APPROVED);
    }

    @Says("Part 2: 1 one of its CELLS has a TOWER")
    static void towerOnTheSecondCell() {
        LowAir air = withOne();
        air.tower(1, true);
        Check.same("why", why(air, 0, 5, 0, 1, 2, 3, 4), 1);
        Check.same("ask", air.ask(0, 5), -2);
    }

    @Says("Part 2: 1 one of its CELLS has a TOWER")
    static void towerOnTheLastCellButOne() {
        LowAir air = withOne();
        air.tower(3, true);
        Check.same("why", why(air, 0, 5, 0, 1, 2, 3, 4), 1);
    }

    @Says("Part 2: 1 one of its CELLS has a TOWER")
    static void towersBesideTheRow() {
        LowAir air = withOne();
        for (int cell = 5; cell < 20; cell++) {
            air.tower(cell, true);
        }
        Check.same("why", why(air, 0, 5, 0, 1, 2, 3, 4), 0);
    }

    @Says("Part 1: no FLIGHT is APPROVED through one")
    static void towerTakenAway() {
        LowAir air = withOne();
        air.tower(1, true);
        air.tower(1, false);
        Check.same("why", why(air, 0, 5, 0, 1, 0), 0);
    }

    @Says("Part 1: but one that is built later stops nobody")
    static void towerBuiltLater() {
        LowAir air = withOne();
        ask(air, 0, 1, 0, 1, 2, 3, 4);
        air.tower(1, true);
        air.pass(4);
        air.tower(3, true);
        Check.same("done", air.pass(5), 1);
        craftIs(air, 0, LIES, 4, 182);
    }

    // ---- 2: zones

    @Says("Part 2: " + ZONE)
    static void zoneShutsBehindTheFirstCell() {
        LowAir air = withZone(0, 1, 2, 1);
        // It occupies 0 in the minutes start - 1 to start + 1; the zone is shut from 60 to 119.
        Check.same("from 57 to 59", why(air, 0, 58, 0, 1, 2, 3, 4), 0);
        Check.same("from 58 to 60", why(air, 0, 59, 0, 1, 2, 3, 4), 2);
    }

    @Says("Part 2: " + ZONE)
    static void zoneOpensAheadOfTheFirstCell() {
        LowAir air = withZone(0, 1, 2, 1);
        Check.same("from 119 to 121", why(air, 0, 120, 0, 1, 2, 3, 4), 2);
        Check.same("from 120 to 122", why(air, 0, 121, 0, 1, 2, 3, 4), 0);
    }

    @Says("Part 2: " + ZONE)
    static void zoneShutsBehindAMiddlingCell() {
        LowAir air = withZone(1, 1, 2, 1);
        // It occupies 1 in the minutes start + 1 to start + 3.
        Check.same("from 57 to 59", why(air, 0, 56, 0, 1, 2, 3, 4), 0);
        Check.same("from 58 to 60", why(air, 0, 57, 0, 1, 2, 3, 4), 2);
    }

    @Says("Part 2: " + ZONE)
    static void zoneOpensAheadOfAMiddlingCell() {
        LowAir air = withZone(1, 1, 2, 1);
        Check.same("from 119 to 121", why(air, 0, 118, 0, 1, 2, 3, 4), 2);
        Check.same("from 120 to 122", why(air, 0, 119, 0, 1, 2, 3, 4), 0);
    }

    @Says("Part 2: " + ZONE)
    static void zoneShutsBehindTheLastCell() {
        LowAir air = withZone(4, 1, 2, 1);
        // It occupies 4 in the minutes start + 7 to start + 9.
        Check.same("from 57 to 59", why(air, 0, 50, 0, 1, 2, 3, 4), 0);
        Check.same("from 58 to 60", why(air, 0, 51, 0, 1, 2, 3, 4), 2);
    }

    @Says("Part 2: " + ZONE)
    static void zoneOpensAheadOfTheLastCell() {
        LowAir air = withZone(4, 1, 2, 1);
        Check.same("from 119 to 121", why(air, 0, 112, 0, 1, 2, 3, 4), 2);
        Check.same("from 120 to 122", why(air, 0, 113, 0, 1, 2, 3, 4), 0);
    }

    @Says("Part 2: " + ZONE)
    static void zoneOfACellThatComesTwice() {
        LowAir air = withZone(1, 1, 2, 1);
        // It occupies 1 in the minutes start + 1 to start + 3 and start + 5 to start + 7.
        Check.same("the second time up to 59", why(air, 0, 52, 0, 1, 2, 1, 0), 0);
        Check.same("the second time up to 60", why(air, 0, 53, 0, 1, 2, 1, 0), 2);
        Check.same("the first time from 119", why(air, 0, 118, 0, 1, 2, 1, 0), 2);
        Check.same("the first time from 120", why(air, 0, 119, 0, 1, 2, 1, 0), 0);
    }

    @Says("Part 2: " + ZONE)
    static void zoneOfACellBesideTheRow() {
        LowAir air = withZone(6, 0, 0, 4);
        Check.same("why", why(air, 0, 60, 0, 1, 2, 3, 4), 0);
    }

    @Says("Part 1: always, if they are the same")
    static void zoneThatIsAlwaysShut() {
        LowAir air = withZone(1, 7, 7, 1);
        for (int start : new int[] {1, 418, 421, 479, 481, 1440, 2000}) {
            Check.same("why at " + start, why(air, 0, start, 0, 1, 0), 2);
        }
    }

    @Says("Part 1: over midnight, if the first one is greater")
    static void zoneOverMidnight() {
        LowAir air = withZone(1, 23, 1, 1);
        // Shut from 0 to 59, and from 1380 to 1499; it occupies 1 from start + 1 to start + 3.
        Check.same("from 59", why(air, 0, 58, 0, 1, 0), 2);
        Check.same("from 60", why(air, 0, 59, 0, 1, 0), 0);
        Check.same("up to 1379", why(air, 0, 1376, 0, 1, 0), 0);
        Check.same("up to 1380", why(air, 0, 1377, 0, 1, 0), 2);
        Check.same("over midnight", why(air, 0, 1438, 0, 1, 0), 2);
        Check.same("from 1499", why(air, 0, 1498, 0, 1, 0), 2);
        Check.same("from 1500", why(air, 0, 1499, 0, 1, 0), 0);
    }

    @Says("Part 1: for all CRAFT of a CLASS below its LEAST (0 to 3; LEAST 1 to 4)")
    static void zoneForClassesBelowItsLeast() {
        for (int least = 1; least <= 4; least++) {
            LowAir air = withCorners();
            for (int rank = 0; rank <= 3; rank++) {
                air.craft(0, rank, 200, 0);
            }
            air.zone(1, 0, 0, least);
            for (int rank = 0; rank <= 3; rank++) {
                Check.same("least " + least + ", class " + rank, why(air, rank, 5, 0, 1, 0), rank < least ? 2 : 0);
            }
        }
    }

    @Says("Part 2: " + ZONE)
    static void zoneByTheMinutesToComeNotByNow() {
        LowAir air = withZone(1, 1, 2, 1);
        passTo(air, 70);
        Check.same("shut now, open then", why(air, 0, 119, 0, 1, 0), 0);
        passTo(air, 130);
        Check.same("open now, shut then", why(air, 0, 1440 + 60, 0, 1, 0), 2);
    }

    private static LowAir withZone(int cell, int from, int to, int least) {
        LowAir air = withOne();
        air.zone(cell, from, to, least);
        return air;
    }

    // ---- 3: flights of other craft. Flight 0, of craft 0, is in 4 from 107 to 109

    private static LowAir withFlightOfAnother() {
        LowAir air = withTwo();
        Check.same("flight 0", ask(air, 0, 100, 0, 1, 2, 3, 4), 0);
        return air;
    }

    @Says("Part 2: " + OTHERS)
    static void othersUpToTheMinuteAhead() {
        LowAir air = withFlightOfAnother();
        // It occupies 4 in the minutes start - 1 to start + 1 and start + 3 to start + 5.
        Check.same("up to 106", why(air, 1, 101, 4, 9, 4), 0);
        Check.same("up to 107", why(air, 1, 102, 4, 9, 4), 3);
        Check.same("asked", air.ask(1, 102), -4);
    }

    @Says("Part 2: " + OTHERS)
    static void othersFromTheMinuteBehind() {
        LowAir air = withFlightOfAnother();
        Check.same("from 109", why(air, 1, 110, 4, 9, 4), 3);
        Check.same("from 110", why(air, 1, 111, 4, 9, 4), 0);
        Check.same("asked", air.ask(1, 111), 1);
    }

    @Says("Part 2: " + OTHERS)
    static void othersInTheMinutesBetween() {
        LowAir air = withFlightOfAnother();
        // With 4 9 14 9 4 it is in 4 up to start + 1 and from start + 7 on.
        Check.same("up to 106, from 112 on", why(air, 1, 105, 4, 9, 14, 9, 4), 0);
        Check.same("up to 107", why(air, 1, 106, 4, 9, 14, 9, 4), 3);
        Check.same("up to 104, from 110 on", why(air, 1, 103, 4, 9, 14, 9, 4), 0);
        Check.same("from 109 on", why(air, 1, 102, 4, 9, 14, 9, 4), 3);
    }

    @Says("Part 2: " + OTHERS)
    static void othersOnAMiddlingCellOfBoth() {
        LowAir air = withPads(0, 4, 7);
        air.craft(0, 0, 200, 0);
        air.craft(2, 0, 200, 0);
        ask(air, 0, 100, 0, 1, 2, 3, 4);
        // Flight 0 is in 2 from 103 to 105, the other one from start + 1 to start + 3.
        Check.same("up to 102", why(air, 1, 99, 7, 2, 7), 0);
        Check.same("up to 103", why(air, 1, 100, 7, 2, 7), 3);
        Check.same("from 105", why(air, 1, 104, 7, 2, 7), 3);
        Check.same("from 106", why(air, 1, 105, 7, 2, 7), 0);
    }

    @Says("Part 2: " + OTHERS)
    static void othersOnTheFirstCellOfTheirs() {
        LowAir air = withFlightOfAnother();
        // Flight 0 is in 0 from 99 to 101, the other one from start + 7 to start + 9.
        Check.same("up to 98", why(air, 1, 89, 20, 15, 10, 5, 0), 0);
        Check.same("up to 99", why(air, 1, 90, 20, 15, 10, 5, 0), 3);
        Check.same("from 101", why(air, 1, 94, 20, 15, 10, 5, 0), 3);
        Check.same("from 102", why(air, 1, 95, 20, 15, 10, 5, 0), 0);
    }

    @Says("Part 2: " + OTHERS)
    static void othersAtTheSameTimeElsewhere() {
        LowAir air = withFlightOfAnother();
        Check.same("why", why(air, 1, 100, 20, 21, 22, 23, 24), 0);
    }

    @Says("Part 2: " + OTHERS)
    static void othersInTheSameCellsAtAnotherTime() {
        LowAir air = withFlightOfAnother();
        Check.same("all of it ahead", why(air, 1, 90, 0, 1, 2, 3, 4), 0);
        Check.same("some minutes behind it", why(air, 1, 103, 0, 1, 2, 3, 4), 0);
        Check.same("2 minutes behind it", why(air, 1, 102, 0, 1, 2, 3, 4), 3);
        Check.same("2 minutes ahead of it", why(air, 1, 98, 0, 1, 2, 3, 4), 3);
        Check.same("3 minutes ahead of it", why(air, 1, 97, 0, 1, 2, 3, 4), 0);
    }

    @Says("Part 2: " + OTHERS)
    static void othersThatFly() {
        LowAir air = withFlightOfAnother();
        passTo(air, 101);
        flightIs(air, 0, FLYING);
        Check.same("up to 107", why(air, 1, 102, 4, 9, 4), 3);
        Check.same("from 109", why(air, 1, 110, 4, 9, 4), 3);
        Check.same("from 110", why(air, 1, 111, 4, 9, 4), 0);
    }

    @Says("Part 2: " + OTHERS)
    static void othersThatAreDone() {
        LowAir air = withFlightOfAnother();
        passTo(air, 107);
        Check.same("ahead of its end", why(air, 1, 109, 4, 9, 4), 3);
        passTo(air, 108);
        flightIs(air, 0, DONE);
        Check.same("behind its end", why(air, 1, 109, 4, 9, 4), 0);
    }

    @Says("Part 2: " + OTHERS)
    static void othersThatAreWithdrawn() {
        LowAir air = withFlightOfAnother();
        air.withdraw(0);
        Check.same("why", why(air, 1, 108, 4, 9, 4), 0);
    }

    @Says("Part 2: " + OTHERS)
    static void othersThatAreMissed() {
        LowAir air = withFlightOfAnother();
        air.link(0, false);
        passTo(air, 100);
        flightIs(air, 0, MISSED);
        Check.same("why", why(air, 1, 108, 4, 9, 4), 0);
    }

    @Says("Part 2: " + OTHERS)
    static void othersThatAreBroken() {
        LowAir air = withFlightOfAnother();
        passTo(air, 101);
        air.link(0, false);
        passTo(air, 102);
        flightIs(air, 0, BROKEN);
        Check.same("why", why(air, 1, 108, 4, 9, 4), 0);
    }

    @Says("Part 2: " + OTHERS)
    static void othersThatAreLost() {
        LowAir air = withCorners();
        air.craft(0, 0, 18, 0);
        air.craft(1, 0, 200, 0);
        ask(air, 0, 100, 0, 1, 2, 3, 4);
        air.wind(3, 3);
        passTo(air, 105);
        Check.same("flying", why(air, 1, 108, 4, 9, 4), 3);
        passTo(air, 106);
        flightIs(air, 0, LOST);
        Check.same("lost", why(air, 1, 108, 4, 9, 4), 0);
    }

    @Says("Part 2: " + OTHERS)
    static void othersAreNotTheCraftItself() {
        LowAir air = withFlightOfAnother();
        Check.same("of craft 1", why(air, 1, 100, 0, 1, 2, 3, 4), 3);
        Check.same("of craft 0", why(air, 0, 100, 0, 1, 2, 3, 4), 4);
    }

    // ---- 4: flights of the same craft. Flight 0 is from 100 to 104; those that are asked for take 4 minutes as well

    private static LowAir withFlightOfItself() {
        LowAir air = withOne();
        Check.same("flight 0", ask(air, 0, 100, 0, 1, 0), 0);
        return air;
    }

    @Says("Part 2: " + AHEAD)
    static void endTwoMinutesAheadOfTheStart() {
        LowAir air = withFlightOfItself();
        Check.same("why at 106", why(air, 0, 106, 4, 3, 4), 4);
        Check.same("ask at 106", air.ask(0, 106), -5);
    }

    @Says("Part 2: " + AHEAD)
    static void endThreeMinutesAheadOfTheStart() {
        LowAir air = withFlightOfItself();
        Check.same("why at 107", why(air, 0, 107, 4, 3, 4), 0);
        Check.same("ask at 107", air.ask(0, 107), 1);
    }

    @Says("Part 2: " + BEHIND)
    static void startTwoMinutesBehindTheEnd() {
        LowAir air = withFlightOfItself();
        // It ends at 98.
        Check.same("why at 94", why(air, 0, 94, 4, 3, 4), 4);
        Check.same("ask at 94", air.ask(0, 94), -5);
    }

    @Says("Part 2: " + BEHIND)
    static void startThreeMinutesBehindTheEnd() {
        LowAir air = withFlightOfItself();
        // It ends at 97.
        Check.same("why at 93", why(air, 0, 93, 4, 3, 4), 0);
        Check.same("ask at 93", air.ask(0, 93), 1);
    }

    @Says("Part 2: " + SAME)
    static void oneWithinTheOther() {
        LowAir air = withOne();
        ask(air, 0, 100, 0, 1, 2, 3, 4);
        Check.same("within it", why(air, 0, 102, 20, 21, 20), 4);
        LowAir other = withFlightOfItself();
        Check.same("around it", why(other, 0, 98, 20, 21, 22, 23, 24), 4);
    }

    @Says("Part 2: " + SAME)
    static void betweenTwoOfTheSame() {
        LowAir air = withFlightOfItself();
        Check.same("flight 1", ask(air, 0, 114, 0, 1, 0), 1);
        Check.same("at 106", why(air, 0, 106, 4, 3, 4), 4);
        Check.same("from 107 to 111", why(air, 0, 107, 4, 3, 4), 0);
        Check.same("from 108 to 112", why(air, 0, 108, 4, 3, 4), 4);
    }

    @Says("Part 2: " + SAME)
    static void oneOfTheSameThatFlies() {
        LowAir air = withFlightOfItself();
        passTo(air, 102);
        flightIs(air, 0, FLYING);
        Check.same("at 106", why(air, 0, 106, 4, 3, 4), 4);
        Check.same("at 107", why(air, 0, 107, 4, 3, 4), 0);
    }

    @Says("Part 2: " + SAME)
    static void oneOfTheSameThatIsDone() {
        LowAir air = withFlightOfItself();
        passTo(air, 103);
        Check.same("ahead of its end", why(air, 0, 105, 4, 3, 4), 4);
        passTo(air, 104);
        flightIs(air, 0, DONE);
        Check.same("at its end", why(air, 0, 105, 4, 3, 4), 0);
    }

    @Says("Part 2: " + SAME)
    static void oneOfTheSameThatIsWithdrawn() {
        LowAir air = withFlightOfItself();
        air.withdraw(0);
        Check.same("why", why(air, 0, 100, 4, 3, 4), 0);
    }

    @Says("Part 2: " + SAME)
    static void oneOfTheSameThatIsMissed() {
        LowAir air = withFlightOfItself();
        air.link(0, false);
        passTo(air, 100);
        flightIs(air, 0, MISSED);
        Check.same("why", why(air, 0, 102, 4, 3, 4), 0);
    }

    @Says("Part 2: " + SAME)
    static void oneOfTheSameThatIsBroken() {
        LowAir air = withFlightOfItself();
        passTo(air, 101);
        air.link(0, false);
        passTo(air, 102);
        flightIs(air, 0, BROKEN);
        Check.same("why", why(air, 0, 104, 4, 3, 4), 0);
    }

    @Says("Part 2: " + SAME)
    static void oneOfTheSameThatIsLost() {
        LowAir air = withOne(21);
        ask(air, 0, 100, 0, 1, 2, 1, 0);
        air.wind(3, 3);
        // A start and two moves for 7, and 5 is left: too little to go back against the next wind.
        passTo(air, 104);
        air.wind(1, 3);
        passTo(air, 105);
        Check.same("flying", why(air, 0, 107, 0, 5, 0), 4);
        passTo(air, 106);
        flightIs(air, 0, LOST);
        Check.same("lost, it has no charge", why(air, 0, 107, 0, 5, 0), 5);
    }

    @Says("Part 2: " + SAME)
    static void oneOfAnotherCraftAtTheSameTime() {
        LowAir air = withTwo();
        ask(air, 0, 100, 0, 1, 0);
        Check.same("why", why(air, 1, 100, 4, 3, 4), 0);
    }

    // ---- 5: the charge

    @Says("Part 2: " + CHARGE)
    static void chargeThatIsJustEnough() {
        LowAir air = withOne(18);
        Check.same("why for 18", why(air, 0, 5, 0, 1, 2, 3, 4), 0);
        Check.same("ask for 18", air.ask(0, 5), 0);
    }

    @Says("Part 2: " + CHARGE)
    static void chargeThatIsOneShort() {
        LowAir air = withOne(17);
        Check.same("why for 18", why(air, 0, 5, 0, 1, 2, 3, 4), 5);
        Check.same("ask for 18", air.ask(0, 5), -6);
    }

    @Says("Part 2: " + CHARGE)
    static void chargeOfTheSmallestBattery() {
        LowAir air = withOne(10);
        Check.same("why for 10", why(air, 0, 5, 0, 1, 0), 0);
        air.wind(0, 1);
        Check.same("why, with it and against it, for 10", why(air, 0, 5, 0, 5, 0), 0);
        air.wind(0, 3);
        Check.same("why, with 1 and 7, for 10", why(air, 0, 5, 0, 5, 0), 0);
    }

    @Says("Part 2: By the WIND as it is now")
    static void chargeByTheWindInEachDirection() {
        int[][] rows = {{20, 15, 10, 5, 0}, {0, 1, 2, 3, 4}, {0, 5, 10, 15, 20}, {4, 3, 2, 1, 0}};
        for (int direction = 0; direction < 4; direction++) {
            for (int force = 0; force <= 3; force++) {
                isJustEnough(2 + 4 * (4 + force), (direction + 2) % 4, force, rows[direction]);
                isJustEnough(2 + 4 * 4, (direction + 1) % 4, force, rows[direction]);
                isJustEnough(2 + 4 * 4, (direction + 3) % 4, force, rows[direction]);
            }
            isJustEnough(2 + 4 * 3, direction, 1, rows[direction]);
            isJustEnough(2 + 4 * 2, direction, 2, rows[direction]);
        }
    }

    private static void isJustEnough(int cost, int direction, int force, int... row) {
        String text = "wind " + direction + " of " + force + " along " + java.util.Arrays.toString(row) + ", ";
        LowAir air = withOne(cost);
        air.wind(direction, force);
        Check.same(text + "charge " + cost, why(air, 0, 5, row), 0);
        if (cost > 10) {
            LowAir less = withOne(cost - 1);
            less.wind(direction, force);
            Check.same(text + "charge " + (cost - 1), why(less, 0, 5, row), 5);
        }
    }

    @Says("Part 2: By the WIND as it is now")
    static void chargeByAWindThatTurns() {
        LowAir air = withOne(18);
        air.wind(3, 1);
        Check.same("against it", why(air, 0, 5, 0, 1, 2, 3, 4), 5);
        air.wind(1, 1);
        Check.same("with it", air.why(0, 5), 0);
        air.wind(3, 0);
        Check.same("without force", air.why(0, 5), 0);
    }

    @Says("Part 2: " + CHARGE)
    static void chargeOfNowNotOfTheStart() {
        LowAir air = withOne(18);
        ask(air, 0, 1, 0, 1, 0);
        passTo(air, 5);
        // 8 are left as it lands; it gets 3 in each minute behind that.
        Check.same("with 8, for much later", why(air, 0, 500, 0, 1, 2, 1, 0), 5);
        passTo(air, 8);
        Check.same("with 17", air.why(0, 500), 5);
        passTo(air, 9);
        Check.same("with 18", air.why(0, 500), 0);
    }

    @Says("Part 2: " + CHARGE)
    static void chargeOfEachFlightByItself() {
        LowAir air = withOne(10);
        Check.same("one for 10", ask(air, 0, 100, 0, 1, 0), 0);
        Check.same("another one for 10", ask(air, 0, 110, 0, 1, 0), 1);
    }

    // ---- 6: planned noise

    @Says("Part 2: " + NOISE)
    static void noiseOfJust60() {
        LowAir air = withLoud(6);
        air.houses(1, 5);
        Check.same("why", why(air, 0, 5, 0, 1, 2, 1, 0), 0);
        Check.same("ask", air.ask(0, 5), 0);
        Check.same("planned", air.ofCell(1, 4), 60);
    }

    @Says("Part 2: " + NOISE)
    static void noiseOf61() {
        LowAir air = withLoud(9);
        air.craft(0, 0, 200, 7);
        air.houses(1, 1);
        Check.same("36", ask(air, 0, 10, 0, 1, 0, 1, 0, 1, 0, 1, 0), 0);
        Check.same("54", ask(air, 0, 100, 0, 1, 0, 1, 0), 1);
        Check.same("why of 61", why(air, 1, 200, 0, 1, 0), 6);
        Check.same("ask of 61", air.ask(1, 200), -7);
    }

    @Says("Part 2: " + NOISE)
    static void noiseOf60BySeveral() {
        LowAir air = withLoud(9);
        air.craft(0, 0, 200, 6);
        air.houses(1, 1);
        ask(air, 0, 10, 0, 1, 0, 1, 0, 1, 0, 1, 0);
        ask(air, 0, 100, 0, 1, 0, 1, 0);
        Check.same("54", air.ofCell(1, 4), 54);
        Check.same("why of 60", why(air, 1, 200, 0, 1, 0), 0);
        Check.same("ask of 60", air.ask(1, 200), 2);
    }

    @Says("Part 2: " + NOISE)
    static void noiseOf63AtOnce() {
        LowAir air = withLoud(9);
        air.houses(1, 6);
        Check.same("54", why(air, 0, 5, 0, 1, 0), 0);
        air.houses(1, 7);
        Check.same("63", why(air, 0, 5, 0, 1, 0), 6);
    }

    @Says("Part 2: " + NOISE)
    static void noiseOfTheMost() {
        LowAir air = withLoud(9);
        air.houses(1, 9);
        Check.same("81", why(air, 0, 5, 0, 1, 0), 6);
    }

    @Says("Part 2: " + NOISE)
    static void noiseOfTheFirstCell() {
        LowAir air = withLoud(9);
        air.houses(0, 6);
        Check.same("54", why(air, 0, 5, 0, 1, 2, 3, 4), 0);
        air.houses(0, 7);
        Check.same("63", why(air, 0, 5, 0, 1, 2, 3, 4), 6);
    }

    @Says("Part 2: " + NOISE)
    static void noiseOfTheLastCell() {
        LowAir air = withLoud(9);
        air.houses(4, 6);
        Check.same("54", why(air, 0, 5, 0, 1, 2, 3, 4), 0);
        air.houses(4, 7);
        Check.same("63", why(air, 0, 5, 0, 1, 2, 3, 4), 6);
    }

    @Says("Part 2: for each time that the CELL is in its row")
    static void noiseOfEachTimeInTheRow() {
        LowAir air = withLoud(5);
        air.houses(1, 6);
        Check.same("30", why(air, 0, 5, 0, 1, 0), 0);
        Check.same("60", why(air, 0, 5, 0, 1, 0, 1, 0), 0);
        Check.same("90", why(air, 0, 5, 0, 1, 0, 1, 0, 1, 0), 6);
    }

    @Says("Part 2: for each time that the CELL is in its row")
    static void noiseOfAPadWhereItStartsAndLands() {
        LowAir air = withLoud(6);
        air.houses(0, 5);
        Check.same("60", why(air, 0, 5, 0, 1, 0), 0);
        air.houses(0, 6);
        Check.same("72", why(air, 0, 5, 0, 1, 0), 6);
    }

    @Says("Part 2: on the day of its START, with it (a day is a minute / 1440)")
    static void noiseOnTheDayOfTheStart() {
        LowAir air = withLoud(6);
        air.houses(1, 6);
        Check.same("36 on day 0", ask(air, 0, 1000, 0, 1, 0), 0);
        Check.same("72 in the last minute of day 0", why(air, 0, 1439, 0, 1, 0), 6);
        Check.same("36 in the first minute of day 1", why(air, 0, 1440, 0, 1, 0), 0);
    }

    @Says("Part 2: on the day of its START, with it (a day is a minute / 1440)")
    static void noiseOfAFlightOverMidnight() {
        LowAir air = withLoud(6);
        air.houses(1, 6);
        // It is in 1 on day 1, but its start is on day 0.
        Check.same("36 on day 0", ask(air, 0, 1439, 0, 1, 0), 0);
        Check.same("why on day 1", why(air, 0, 1500, 0, 1, 0), 0);
        Check.same("why on day 0", why(air, 0, 1400, 0, 1, 0), 6);
    }

    @Says("Part 2: " + PLANNED)
    static void noiseOfOneThatIsApproved() {
        LowAir air = withNoise();
        Check.same("why", why(air, 1, 100, 4, 3, 2, 1, 0), 6);
    }

    @Says("Part 2: " + PLANNED)
    static void noiseOfOneThatFlies() {
        LowAir air = withNoise();
        passTo(air, 10);
        flightIs(air, 0, FLYING);
        Check.same("why", why(air, 1, 100, 4, 3, 2, 1, 0), 6);
    }

    @Says("Part 2: " + PLANNED)
    static void noiseOfOneThatIsDone() {
        LowAir air = withNoise();
        passTo(air, 18);
        flightIs(air, 0, DONE);
        Check.same("why", why(air, 1, 100, 4, 3, 2, 1, 0), 6);
    }

    @Says("Part 2: " + PLANNED)
    static void noiseOfOneThatIsWithdrawn() {
        LowAir air = withNoise();
        air.withdraw(0);
        Check.same("why", why(air, 1, 100, 4, 3, 2, 1, 0), 0);
    }

    @Says("Part 2: " + PLANNED)
    static void noiseOfOneThatIsMissed() {
        LowAir air = withNoise();
        air.link(0, false);
        passTo(air, 10);
        flightIs(air, 0, MISSED);
        Check.same("why", why(air, 1, 100, 4, 3, 2, 1, 0), 0);
    }

    @Says("Part 2: " + PLANNED)
    static void noiseOfOneThatIsBroken() {
        LowAir air = withNoise();
        passTo(air, 15);
        air.link(0, false);
        passTo(air, 16);
        flightIs(air, 0, BROKEN);
        Check.same("heard, as it came back", air.ofCell(1, 3), 72);
        Check.same("why", why(air, 1, 100, 4, 3, 2, 1, 0), 0);
    }

    @Says("Part 2: " + PLANNED)
    static void noiseOfOneThatIsLost() {
        LowAir air = withCorners();
        air.craft(0, 0, 18, 6);
        air.craft(1, 0, 200, 6);
        air.houses(1, 6);
        ask(air, 0, 10, 0, 1, 2, 3, 4);
        air.wind(3, 3);
        passTo(air, 15);
        Check.same("why as it flies", why(air, 1, 100, 4, 3, 2, 1, 0), 6);
        passTo(air, 16);
        flightIs(air, 0, LOST);
        Check.same("why", why(air, 1, 100, 4, 3, 2, 1, 0), 0);
    }

    @Says("Part 2: LOUDNESS of its CRAFT times HOUSES (as they are now)")
    static void noiseByTheHousesOfNow() {
        LowAir air = withNoise();
        air.houses(1, 5);
        Check.same("60", why(air, 1, 100, 4, 3, 2, 1, 0), 0);
        air.houses(1, 6);
        Check.same("72", why(air, 1, 100, 4, 3, 2, 1, 0), 6);
    }

    @Says("Part 2: " + NOISE)
    static void noiseOfACellBesideTheRow() {
        LowAir air = withNoise();
        air.houses(1, 9);
        Check.same("54", air.ofCell(1, 4), 54);
        air.houses(6, 9);
        Check.same("a row without 1 and 6", why(air, 1, 100, 4, 3, 4), 0);
    }

    @Says("Part 2: " + NOISE)
    static void noiseOfSomeThatIsTooMuchElsewhere() {
        LowAir air = withLoud(9);
        air.craft(1, 0, 200, 9);
        air.houses(1, 6);
        ask(air, 0, 10, 0, 1, 0);
        air.houses(1, 9);
        Check.same("81", air.ofCell(1, 4), 81);
        Check.same("a row without 1", why(air, 1, 100, 4, 3, 4), 0);
    }

    @Says("Part 2: " + NOISE)
    static void noNoiseOfItsOwnWhereItIsTooMuch() {
        LowAir air = withLoud(9);
        air.craft(1, 0, 200, 0);
        air.houses(1, 6);
        ask(air, 0, 10, 0, 1, 0);
        Check.same("54 and nothing more", why(air, 1, 100, 4, 3, 2, 1, 0), 0);
        air.houses(1, 7);
        Check.same("63 and nothing more", why(air, 1, 100, 4, 3, 2, 1, 0), 6);
    }

    @Says("Part 2: " + NOISE)
    static void noNoiseOfItsOwnWhereItIsJust60() {
        LowAir air = withLoud(6);
        air.craft(1, 0, 200, 0);
        air.houses(1, 5);
        ask(air, 0, 10, 0, 1, 2, 1, 0);
        Check.same("60 and nothing more", why(air, 1, 100, 4, 3, 2, 1, 0), 0);
    }

    private static LowAir withLoud(int loudness) {
        LowAir air = withCorners();
        air.craft(0, 0, 200, loudness);
        return air;
    }

    /** Flight 0 of craft 0 is planned with 36 in 1; craft 1 comes with 36 more. */
    private static LowAir withNoise() {
        LowAir air = withLoud(6);
        air.craft(1, 0, 200, 6);
        air.houses(1, 6);
        Check.same("flight 0", ask(air, 0, 10, 0, 1, 2, 3, 4), 0);
        return air;
    }

    // ---- their order

    @Says("Part 2: As it is asked for, the first of these REASONS is against it")
    static void theFirstReasonGoesFirst() {
        LowAir air = withCorners();
        air.craft(0, 0, 18, 9);
        air.craft(1, 0, 200, 0);
        air.houses(1, 7);
        isAgainst(air, 6);
        air.wind(3, 1);
        isAgainst(air, 5);
        Check.same("a flight of the same craft", ask(air, 0, 100, 0, 5, 0), 0);
        isAgainst(air, 4);
        Check.same("a flight of another craft", ask(air, 1, 104, 4, 3, 4), 1);
        isAgainst(air, 3);
        air.zone(2, 0, 0, 1);
        isAgainst(air, 2);
        air.tower(2, true);
        isAgainst(air, 1);
    }

    private static void isAgainst(LowAir air, int reason) {
        Check.same("why", why(air, 0, 100, 0, 1, 2, 3, 4), reason);
        Check.same("ask", air.ask(0, 100), -1 - reason);
        Check.same("the draft is kept", air.many(5), 5);
    }

    @Says("Part 2: As it is asked for, the first of these REASONS is against it")
    static void towerGoesAheadOfEachOther() {
        Check.same("zone", reasonOf(true, true, false, false, false, false), 1);
        Check.same("others", reasonOf(true, false, true, false, false, false), 1);
        Check.same("same craft", reasonOf(true, false, false, true, false, false), 1);
        Check.same("charge", reasonOf(true, false, false, false, true, false), 1);
        Check.same("noise", reasonOf(true, false, false, false, false, true), 1);
    }

    @Says("Part 2: As it is asked for, the first of these REASONS is against it")
    static void zoneGoesAheadOfTheRest() {
        Check.same("others", reasonOf(false, true, true, false, false, false), 2);
        Check.same("same craft", reasonOf(false, true, false, true, false, false), 2);
        Check.same("charge", reasonOf(false, true, false, false, true, false), 2);
        Check.same("noise", reasonOf(false, true, false, false, false, true), 2);
    }

    @Says("Part 2: As it is asked for, the first of these REASONS is against it")
    static void othersGoAheadOfTheRest() {
        Check.same("same craft", reasonOf(false, false, true, true, false, false), 3);
        Check.same("charge", reasonOf(false, false, true, false, true, false), 3);
        Check.same("noise", reasonOf(false, false, true, false, false, true), 3);
    }

    @Says("Part 2: As it is asked for, the first of these REASONS is against it")
    static void sameCraftGoesAheadOfTheRest() {
        Check.same("charge", reasonOf(false, false, false, true, true, false), 4);
        Check.same("noise", reasonOf(false, false, false, true, false, true), 4);
    }

    @Says("Part 2: As it is asked for, the first of these REASONS is against it")
    static void chargeGoesAheadOfNoise() {
        Check.same("noise", reasonOf(false, false, false, false, true, true), 5);
    }

    @Says("Part 2: As it is asked for, the first of these REASONS is against it")
    static void eachReasonAlone() {
        for (int reason = 1; reason <= 6; reason++) {
            int got = reasonOf(reason == 1, reason == 2, reason == 3, reason == 4, reason == 5, reason == 6);
            Check.same("reason", got, reason);
        }
        Check.same("none", reasonOf(false, false, false, false, false, false), 0);
    }

    /** Why a flight of craft 0 along 0 1 2 3 4 at 100 is refused, with some of the reasons against it. */
    private static int reasonOf(boolean tower, boolean zone, boolean other, boolean same, boolean charge,
            boolean noise) {
        LowAir air = withCorners();
        air.craft(0, 0, 18, 9);
        air.craft(1, 0, 200, 0);
        if (same) {
            ask(air, 0, 100, 0, 5, 0);
        }
        if (other) {
            ask(air, 1, 104, 4, 3, 4);
        }
        air.houses(1, noise ? 7 : 0);
        air.wind(3, charge ? 1 : 0);
        air.tower(2, tower);
        if (zone) {
            air.zone(1, 0, 0, 1);
        }
        return why(air, 0, 100, 0, 1, 2, 3, 4);
    }
}
