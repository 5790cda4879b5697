/** The bounds of what comes of a minute, one test for each case: NEAR, CHARGE, NOISE and BREACHES in part 3. */
public final class MinuteBoundsTest extends Scene {
    private static final String NEAR = "for each two CRAFT that fly in one CELL by now, 1 comes to the number of "
        + "times that craft were NEAR";
    private static final String CHARGE = "A CRAFT that lies on a PAD, and did not LAND in this minute, gets 3 of "
        + "CHARGE (its BATTERY at most).";
    private static final String HEARD = "LOUDNESS times HOUSES comes to the NOISE that was HEARD there on this day "
        + "(NOW / 1440)";
    private static final String BREACH = "and it is a BREACH of it, if a ZONE of that CELL is shut for it then";
    private static final String COMES = "As a CRAFT starts in a CELL, or comes into one by a MOVE";

    private MinuteBoundsTest() {
    }

    public static void main(String[] args) {
        Check.eachOf(MinuteBoundsTest.class);
        Check.end();
    }

    // ---- (3) near

    /** Its flight broken, craft 0 is in 2 at 13, and is to be in 1 at 15 and 16; craft 1 lies in 1. */
    private static LowAir withOneOnItsWayBy1() {
        LowAir air = withPads(0, 1, 4);
        air.craft(0, 0, 200, 0);
        air.craft(1, 0, 200, 0);
        ask(air, 0, 1, 0, 5, 6, 7, 8, 3, 4);
        passTo(air, 9);
        Check.same("in 8", air.ofCraft(0, 7), 8);
        air.link(0, false);
        passTo(air, 13);
        flightIs(air, 0, BROKEN);
        Check.same("in 2", air.ofCraft(0, 7), 2);
        return air;
    }

    @Says("Part 3: " + NEAR)
    static void nearInEachMinuteInOneCell() {
        LowAir air = withOneOnItsWayBy1();
        Check.same("ask", ask(air, 1, 15, 1, 6, 1), 1);
        passTo(air, 14);
        Check.same("at 14", air.many(13), 0);
        passTo(air, 15);
        Check.same("at 15, as one starts and the other one comes in", air.many(13), 1);
        passTo(air, 16);
        Check.same("at 16", air.many(13), 2);
        passTo(air, 17);
        Check.same("at 17, as both leave", air.many(13), 2);
    }

    @Says("Part 3: " + NEAR)
    static void nearForOneMinuteAlone() {
        LowAir air = withOneOnItsWayBy1();
        Check.same("ask", ask(air, 1, 16, 1, 6, 1), 1);
        passTo(air, 15);
        Check.same("at 15", air.many(13), 0);
        passTo(air, 16);
        Check.same("at 16, as one starts", air.many(13), 1);
        passTo(air, 17);
        Check.same("at 17, as one leaves", air.many(13), 1);
    }

    @Says("Part 3: " + NEAR)
    static void notNearOneThatLies() {
        LowAir air = withOneOnItsWayBy1();
        passTo(air, 30);
        Check.same("many(13)", air.many(13), 0);
    }

    @Says("Part 3: " + NEAR)
    static void notNearOneThatLandsInThatMinute() {
        LowAir air = withPads(0, 1);
        air.craft(0, 0, 200, 0);
        air.craft(0, 0, 200, 0);
        ask(air, 0, 1, 0, 5, 6, 1);
        passTo(air, 5);
        air.link(0, false);
        passTo(air, 7);
        Check.same("from 6 into its row", air.ofCraft(0, 7), 1);
        Check.same("ask", ask(air, 1, 8, 0, 5, 0), 1);
        passTo(air, 9);
        craftIs(air, 0, LIES, 0, 200 - 18);
        craftIs(air, 1, FLIES, 0, 198);
        Check.same("many(13)", air.many(13), 0);
    }

    @Says("Part 3: " + NEAR)
    static void notNearOneThatIsDown() {
        LowAir air = withPads(0, 2);
        air.craft(0, 0, 10, 0);
        air.craft(1, 0, 200, 0);
        ask(air, 0, 1, 0, 1, 0);
        passTo(air, 3);
        air.wind(1, 1);
        passTo(air, 5);
        craftIs(air, 0, DOWN, 1, 0);
        Check.same("ask", ask(air, 1, 6, 2, 1, 2), 1);
        passTo(air, 8);
        craftIs(air, 1, FLIES, 1, 200 - 2 - 5);
        passTo(air, 20);
        Check.same("many(13)", air.many(13), 0);
    }

    @Says("Part 3: " + NEAR)
    static void notNearAsTheyChangeCells() {
        LowAir air = withPads(0, 9, 1);
        air.craft(0, 0, 200, 0);
        air.craft(2, 0, 200, 0);
        ask(air, 0, 1, 0, 1, 2, 3, 4, 9);
        passTo(air, 9);
        air.link(0, false);
        passTo(air, 11);
        Check.same("back in 3", air.ofCraft(0, 7), 3);
        Check.same("ask", ask(air, 1, 13, 1, 2, 1), 1);
        passTo(air, 14);
        craftIs(air, 0, FLIES, 2, 200 - 2 - 24);
        craftIs(air, 1, FLIES, 1, 198);
        passTo(air, 15);
        craftIs(air, 0, FLIES, 1, 200 - 2 - 28);
        craftIs(air, 1, FLIES, 2, 194);
        Check.same("many(13)", air.many(13), 0);
    }

    @Says("Part 3: " + NEAR)
    static void threeInOneCellAreThreePairs() {
        LowAir air = withPads(0, 1, 2, 10);
        air.craft(0, 0, 200, 0);
        air.craft(1, 0, 200, 0);
        air.craft(0, 0, 200, 0);
        ask(air, 2, 1, 0, 5, 10);
        passTo(air, 10);
        ask(air, 0, 21, 0, 5, 6, 7, 2);
        ask(air, 2, 21, 10, 11, 12, 11, 10);
        passTo(air, 27);
        air.link(0, false);
        air.link(2, false);
        passTo(air, 29);
        Check.same("ask", ask(air, 1, 31, 1, 6, 1), 3);
        passTo(air, 30);
        Check.same("at 30", air.many(13), 0);
        passTo(air, 31);
        Check.same("in 1", air.ofCell(1, 5), 3);
        Check.same("at 31", air.many(13), 3);
    }

    @Says("Part 3: " + NEAR)
    static void notNearAlone() {
        LowAir air = withOne();
        ask(air, 0, 1, 0, 1, 2, 3, 4);
        passTo(air, 20);
        Check.same("many(13)", air.many(13), 0);
    }

    // ---- (4) charge

    @Says("Part 3: " + CHARGE)
    static void noChargeInTheMinuteOfTheLanding() {
        LowAir air = withOne(100);
        ask(air, 0, 1, 0, 1, 0);
        passTo(air, 5);
        craftIs(air, 0, LIES, 0, 90);
        passTo(air, 6);
        craftIs(air, 0, LIES, 0, 93);
    }

    @Says("Part 3: " + CHARGE)
    static void noChargeInTheMinuteOfALandingAtHome() {
        LowAir air = withOne(100);
        ask(air, 0, 1, 0, 1, 0);
        passTo(air, 2);
        air.link(0, false);
        passTo(air, 3);
        craftIs(air, 0, LIES, 0, 98);
        passTo(air, 4);
        craftIs(air, 0, LIES, 0, 100);
    }

    @Says("Part 3: " + CHARGE)
    static void chargeOfABatteryThatIsThreeShort() {
        LowAir air = withOne(100);
        air.wind(1, 3);
        ask(air, 0, 1, 0, 1, 2, 3, 4);
        passTo(air, 9);
        craftIs(air, 0, LIES, 4, 94);
        passTo(air, 10);
        craftIs(air, 0, LIES, 4, 97);
        passTo(air, 11);
        craftIs(air, 0, LIES, 4, 100);
        passTo(air, 12);
        craftIs(air, 0, LIES, 4, 100);
    }

    @Says("Part 3: " + CHARGE)
    static void chargeOfABatteryThatIsTwoShort() {
        LowAir air = withOne(100);
        air.wind(1, 1);
        ask(air, 0, 1, 0, 1, 2, 3, 4);
        passTo(air, 9);
        craftIs(air, 0, LIES, 4, 86);
        passTo(air, 13);
        craftIs(air, 0, LIES, 4, 98);
        passTo(air, 14);
        craftIs(air, 0, LIES, 4, 100);
    }

    @Says("Part 3: " + CHARGE)
    static void chargeOfABatteryThatIsOneShort() {
        LowAir air = withOne(100);
        ask(air, 0, 1, 0, 1, 0);
        passTo(air, 8);
        craftIs(air, 0, LIES, 0, 99);
        passTo(air, 9);
        craftIs(air, 0, LIES, 0, 100);
    }

    @Says("Part 3: " + CHARGE)
    static void chargeOfAFullBattery() {
        LowAir air = withOne(10);
        air.pass(1);
        craftIs(air, 0, LIES, 0, 10);
        air.pass(100);
        craftIs(air, 0, LIES, 0, 10);
    }

    @Says("Part 3: " + CHARGE)
    static void noChargeInTheMinuteOfTheStart() {
        LowAir air = withOne(100);
        ask(air, 0, 1, 0, 1, 0);
        ask(air, 0, 8, 0, 1, 0);
        passTo(air, 7);
        craftIs(air, 0, LIES, 0, 96);
        passTo(air, 8);
        craftIs(air, 0, FLIES, 0, 94);
        passTo(air, 9);
        craftIs(air, 0, FLIES, 0, 94);
    }

    @Says("Part 3: " + CHARGE)
    static void chargeInTheMinuteOfAMissedStart() {
        LowAir air = withOne(100);
        ask(air, 0, 1, 0, 1, 0);
        ask(air, 0, 8, 4, 3, 4);
        passTo(air, 8);
        flightIs(air, 1, MISSED);
        craftIs(air, 0, LIES, 0, 99);
    }

    @Says("Part 3: " + CHARGE)
    static void chargeOnThePadOfAnother() {
        LowAir air = withOne(100);
        ask(air, 0, 1, 0, 1, 2, 3, 4);
        passTo(air, 9);
        craftIs(air, 0, LIES, 4, 82);
        passTo(air, 12);
        craftIs(air, 0, LIES, 4, 91);
    }

    @Says("Part 3: " + CHARGE)
    static void chargeWithoutALink() {
        LowAir air = withOne(100);
        ask(air, 0, 1, 0, 1, 0);
        passTo(air, 5);
        air.link(0, false);
        passTo(air, 6);
        craftIs(air, 0, LIES, 0, 93);
    }

    @Says("Part 3: " + CHARGE)
    static void noChargeAsItIsDownAndSomeAsItIsFetched() {
        LowAir air = withOne(10);
        ask(air, 0, 1, 0, 1, 0);
        passTo(air, 3);
        air.wind(1, 1);
        passTo(air, 30);
        craftIs(air, 0, DOWN, 1, 0);
        air.fetch(0);
        craftIs(air, 0, LIES, 0, 0);
        for (int charge : new int[] {3, 6, 9, 10, 10}) {
            air.pass(1);
            craftIs(air, 0, LIES, 0, charge);
        }
    }

    @Says("Part 3: " + CHARGE)
    static void chargeOfOneThatIsFetchedInTheMinuteInWhichItFell() {
        LowAir air = withOne(10);
        ask(air, 0, 1, 0, 1, 0);
        passTo(air, 3);
        air.wind(1, 1);
        passTo(air, 5);
        air.fetch(0);
        passTo(air, 6);
        craftIs(air, 0, LIES, 0, 3);
    }

    // ---- noise

    private static LowAir withLoud(int loudness) {
        LowAir air = withCorners();
        air.craft(0, 0, 200, loudness);
        return air;
    }

    @Says("Part 3: " + COMES)
    static void noiseOfTheStart() {
        LowAir air = withLoud(3);
        air.houses(0, 2);
        ask(air, 0, 5, 0, 1, 2, 3, 4);
        passTo(air, 4);
        Check.same("heard at 4", air.ofCell(0, 3), 0);
        passTo(air, 5);
        Check.same("heard at 5", air.ofCell(0, 3), 6);
        passTo(air, 6);
        Check.same("heard once", air.ofCell(0, 3), 6);
    }

    @Says("Part 3: " + COMES)
    static void noiseOfAMove() {
        LowAir air = withLoud(3);
        air.houses(1, 2);
        ask(air, 0, 5, 0, 1, 2, 3, 4);
        passTo(air, 6);
        Check.same("heard at 6", air.ofCell(1, 3), 0);
        passTo(air, 7);
        Check.same("heard at 7", air.ofCell(1, 3), 6);
        passTo(air, 8);
        Check.same("heard once", air.ofCell(1, 3), 6);
    }

    @Says("Part 3: " + COMES)
    static void noiseOfTheLanding() {
        LowAir air = withLoud(3);
        air.houses(4, 2);
        ask(air, 0, 5, 0, 1, 2, 3, 4);
        passTo(air, 12);
        Check.same("heard at 12", air.ofCell(4, 3), 0);
        passTo(air, 13);
        Check.same("heard at 13", air.ofCell(4, 3), 6);
        passTo(air, 30);
        Check.same("heard once", air.many(15), 6);
    }

    @Says("Part 3: " + COMES)
    static void noNoiseOfALandingWithoutAMove() {
        LowAir air = withLoud(3);
        air.houses(0, 2);
        ask(air, 0, 1, 0, 1, 0);
        passTo(air, 2);
        air.link(0, false);
        passTo(air, 3);
        craftIs(air, 0, LIES, 0, 198);
        Check.same("of the start alone", air.many(15), 6);
    }

    @Says("Part 3: " + COMES)
    static void noNoiseOfOneThatGoesDown() {
        LowAir air = withCorners();
        air.craft(0, 0, 10, 3);
        air.houses(0, 2);
        air.houses(1, 1);
        ask(air, 0, 1, 0, 1, 0);
        passTo(air, 3);
        air.wind(1, 1);
        passTo(air, 5);
        Check.same("in 0", air.ofCell(0, 3), 6);
        Check.same("in 1", air.ofCell(1, 3), 3);
        Check.same("ever", air.many(15), 9);
    }

    @Says("Part 3: " + COMES)
    static void noNoiseOfAMissedStart() {
        LowAir air = withLoud(3);
        air.houses(4, 2);
        ask(air, 0, 1, 4, 3, 4);
        air.pass(1);
        Check.same("ever", air.many(15), 0);
    }

    @Says("Part 3: " + COMES)
    static void noiseOnTheWayHome() {
        LowAir air = withLoud(3);
        air.houses(1, 2);
        ask(air, 0, 1, 0, 1, 2, 3, 4);
        passTo(air, 5);
        air.link(0, false);
        passTo(air, 7);
        Check.same("there and back", air.ofCell(1, 3), 12);
    }

    @Says("Part 3: " + HEARD)
    static void noiseOfTheLeastAndTheMost() {
        LowAir quiet = withLoud(0);
        quiet.houses(1, 9);
        ask(quiet, 0, 1, 0, 1, 0);
        passTo(quiet, 5);
        Check.same("0 times 9", quiet.many(15), 0);
        LowAir alone = withLoud(9);
        ask(alone, 0, 1, 0, 1, 0);
        passTo(alone, 5);
        Check.same("9 times 0", alone.many(15), 0);
        LowAir loud = withLoud(9);
        ask(loud, 0, 1, 0, 1, 0);
        loud.houses(1, 9);
        passTo(loud, 5);
        Check.same("9 times 9", loud.ofCell(1, 3), 81);
    }

    @Says("Part 3: " + HEARD)
    static void noiseByTheHousesOfThen() {
        LowAir air = withLoud(3);
        air.houses(1, 2);
        ask(air, 0, 1, 0, 1, 0, 1, 0);
        passTo(air, 3);
        air.houses(1, 5);
        Check.same("what was heard stays", air.ofCell(1, 3), 6);
        passTo(air, 7);
        Check.same("and 15 more", air.ofCell(1, 3), 21);
    }

    @Says("Part 3: " + HEARD)
    static void noiseInTheLastMinuteOfADay() {
        LowAir air = withLoud(3);
        air.houses(0, 2);
        ask(air, 0, 1439, 0, 1, 0);
        passTo(air, 1439);
        Check.same("on its day", air.ofCell(0, 3), 6);
        passTo(air, 1440);
        Check.same("on the next one", air.ofCell(0, 3), 0);
        Check.same("ever", air.many(15), 6);
    }

    @Says("Part 3: " + HEARD)
    static void noiseInTheFirstMinuteOfADay() {
        LowAir air = withLoud(3);
        air.houses(0, 2);
        ask(air, 0, 1440, 0, 1, 0);
        passTo(air, 1440);
        Check.same("on its day", air.ofCell(0, 3), 6);
        passTo(air, 2879);
        Check.same("in the last minute of its day", air.ofCell(0, 3), 12);
        passTo(air, 2880);
        Check.same("on the next one", air.ofCell(0, 3), 0);
        Check.same("ever", air.many(15), 12);
    }

    @Says("Part 3: " + HEARD)
    static void noiseOfOneFlightOnTwoDays() {
        LowAir air = withLoud(3);
        air.houses(0, 2);
        air.houses(1, 1);
        ask(air, 0, 1438, 0, 1, 0);
        passTo(air, 1438);
        Check.same("in 0 on day 0", air.ofCell(0, 3), 6);
        passTo(air, 1440);
        Check.same("in 0 on day 1", air.ofCell(0, 3), 0);
        Check.same("in 1 on day 1", air.ofCell(1, 3), 3);
        passTo(air, 1442);
        Check.same("in 0 as it lands", air.ofCell(0, 3), 6);
        Check.same("ever", air.many(15), 15);
    }

    // ---- breaches

    @Says("Part 3: " + BREACH)
    static void breachAtTheStart() {
        LowAir air = withOne();
        ask(air, 0, 5, 0, 1, 2, 3, 4);
        air.zone(0, 0, 0, 1);
        passTo(air, 4);
        Check.same("at 4", air.ofCraft(0, 9), 0);
        passTo(air, 5);
        Check.same("at 5", air.ofCraft(0, 9), 1);
        passTo(air, 6);
        Check.same("once", air.ofCraft(0, 9), 1);
    }

    @Says("Part 3: " + BREACH)
    static void breachInTheFirstMinuteOfAZone() {
        Check.same("at 59", breachesOfOneThatComesInto1At(59, 1, 2), 0);
        Check.same("at 60", breachesOfOneThatComesInto1At(60, 1, 2), 1);
    }

    @Says("Part 3: " + BREACH)
    static void breachInTheLastMinuteOfAZone() {
        Check.same("at 119", breachesOfOneThatComesInto1At(119, 1, 2), 1);
        Check.same("at 120", breachesOfOneThatComesInto1At(120, 1, 2), 0);
    }

    @Says("Part 3: " + BREACH)
    static void breachOfAZoneOverMidnight() {
        Check.same("at 1379", breachesOfOneThatComesInto1At(1379, 23, 1), 0);
        Check.same("at 1380", breachesOfOneThatComesInto1At(1380, 23, 1), 1);
        Check.same("at 1440", breachesOfOneThatComesInto1At(1440, 23, 1), 1);
        Check.same("at 1499", breachesOfOneThatComesInto1At(1499, 23, 1), 1);
        Check.same("at 1500", breachesOfOneThatComesInto1At(1500, 23, 1), 0);
    }

    @Says("Part 3: " + BREACH)
    static void breachOfAZoneThatIsAlwaysShut() {
        Check.same("at 3", breachesOfOneThatComesInto1At(3, 7, 7), 1);
        Check.same("at 419", breachesOfOneThatComesInto1At(419, 7, 7), 1);
        Check.same("at 420", breachesOfOneThatComesInto1At(420, 7, 7), 1);
        Check.same("at 480", breachesOfOneThatComesInto1At(480, 7, 7), 1);
    }

    /** It stays in 1 for one minute more: that is no coming in. */
    private static int breachesOfOneThatComesInto1At(int minute, int from, int to) {
        LowAir air = withOne();
        Check.same("ask", ask(air, 0, minute - 2, 0, 1, 0), 0);
        air.zone(1, from, to, 1);
        passTo(air, minute + 1);
        return air.ofCraft(0, 9);
    }

    @Says("Part 3: " + BREACH)
    static void breachOfClassesBelowTheLeast() {
        for (int rank = 0; rank <= 3; rank++) {
            for (int least = 1; least <= 4; least++) {
                LowAir air = withCorners();
                air.craft(0, rank, 200, 0);
                ask(air, 0, 1, 0, 1, 0);
                air.zone(1, 0, 0, least);
                passTo(air, 5);
                Check.same("class " + rank + ", least " + least, air.ofCraft(0, 9), rank < least ? 1 : 0);
            }
        }
    }

    @Says("Part 3: " + BREACH)
    static void oneBreachOfTwoZones() {
        LowAir air = withOne();
        ask(air, 0, 1, 0, 1, 0);
        air.zone(1, 0, 0, 1);
        air.zone(1, 0, 1, 2);
        passTo(air, 5);
        Check.same("its breaches", air.ofCraft(0, 9), 1);
        Check.same("all breaches", air.many(14), 1);
    }

    @Says("Part 3: " + BREACH)
    static void breachEachTime() {
        LowAir air = withOne();
        ask(air, 0, 1, 0, 1, 0, 1, 0);
        air.zone(1, 0, 0, 1);
        passTo(air, 9);
        Check.same("its breaches", air.ofCraft(0, 9), 2);
    }

    @Says("Part 3: " + BREACH)
    static void breachAsItLands() {
        LowAir air = withOne();
        ask(air, 0, 1, 0, 1, 2, 3, 4);
        air.zone(4, 0, 0, 1);
        passTo(air, 9);
        Check.same("its breaches", air.ofCraft(0, 9), 1);
    }

    @Says("Part 3: " + COMES)
    static void noBreachOfALandingWithoutAMove() {
        LowAir air = withOne();
        ask(air, 0, 1, 0, 1, 0);
        passTo(air, 2);
        air.zone(0, 0, 0, 1);
        air.link(0, false);
        passTo(air, 3);
        craftIs(air, 0, LIES, 0, 198);
        Check.same("its breaches", air.ofCraft(0, 9), 0);
    }

    @Says("Part 3: " + COMES)
    static void noBreachOfOneThatLies() {
        LowAir air = withOne();
        air.zone(0, 0, 0, 1);
        passTo(air, 100);
        Check.same("its breaches", air.ofCraft(0, 9), 0);
    }

    @Says("Part 3: " + BREACH)
    static void breachOfAZoneOfThatCellAlone() {
        LowAir air = withOne();
        air.zone(6, 0, 0, 4);
        ask(air, 0, 1, 0, 1, 0);
        passTo(air, 5);
        Check.same("its breaches", air.ofCraft(0, 9), 0);
    }
}
