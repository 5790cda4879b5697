import java.util.function.Supplier;
import java.util.function.ToLongFunction;

/**
 * A call that is refused changes nothing, and neither does one that only asks: of two objects with the same calls,
 * one gets the call more, and both answer the same from then on.
 */
public final class RefusedTest extends Scene {
    private static final String NOTHING = "Terms: A method that throws an exception changes nothing.";
    private static final String ASKED = "Terms: what would be (nothing is changed)";

    private RefusedTest() {
    }

    public static void main(String[] args) {
        Check.eachOf(RefusedTest.class);
        Check.end();
    }

    @Says(NOTHING)
    static void refusedHouses() {
        leavesAll(RefusedTest::busy, Check.OUT, air -> air.houses(25, 1));
        leavesAll(RefusedTest::busy, Check.ARGUMENT, air -> air.houses(1, 10));
        leavesAll(RefusedTest::busy, Check.ARGUMENT, air -> air.houses(1, -1));
    }

    @Says(NOTHING)
    static void refusedTower() {
        leavesAll(RefusedTest::busy, Check.OUT, air -> air.tower(25, true) ? 1 : 0);
        leavesAll(RefusedTest::busy, Check.STATE, air -> air.tower(0, true) ? 1 : 0);
        leavesAll(RefusedTest::busy, Check.STATE, air -> air.tower(4, false) ? 1 : 0);
    }

    @Says(NOTHING)
    static void refusedPad() {
        leavesAll(RefusedTest::busy, Check.OUT, air -> air.pad(-1));
        leavesAll(RefusedTest::busy, Check.ARGUMENT, air -> air.pad(4));
        leavesAll(RefusedTest::busy, Check.ARGUMENT, air -> air.pad(12));
        leavesAll(RefusedTest::full, Check.STATE, air -> air.pad(9));
    }

    @Says(NOTHING)
    static void refusedZone() {
        leavesAll(RefusedTest::busy, Check.OUT, air -> air.zone(25, 0, 0, 4));
        leavesAll(RefusedTest::busy, Check.ARGUMENT, air -> air.zone(9, 24, 0, 4));
        leavesAll(RefusedTest::busy, Check.ARGUMENT, air -> air.zone(9, 0, 24, 4));
        leavesAll(RefusedTest::busy, Check.ARGUMENT, air -> air.zone(9, 0, 0, 5));
        leavesAll(RefusedTest::busy, Check.ARGUMENT, air -> air.zone(9, 0, 0, 0));
        leavesAll(RefusedTest::full, Check.STATE, air -> air.zone(9, 0, 0, 4));
    }

    @Says(NOTHING)
    static void refusedWind() {
        leavesAll(RefusedTest::busy, Check.ARGUMENT, air -> air.wind(4, 1));
        leavesAll(RefusedTest::busy, Check.ARGUMENT, air -> air.wind(3, 4));
        leavesAll(RefusedTest::busy, Check.ARGUMENT, air -> air.wind(3, -1));
    }

    @Says(NOTHING)
    static void refusedCraft() {
        leavesAll(RefusedTest::busy, Check.OUT, air -> air.craft(4, 0, 10, 0));
        leavesAll(RefusedTest::busy, Check.ARGUMENT, air -> air.craft(0, 4, 10, 0));
        leavesAll(RefusedTest::busy, Check.ARGUMENT, air -> air.craft(0, 0, 9, 0));
        leavesAll(RefusedTest::busy, Check.ARGUMENT, air -> air.craft(0, 0, 201, 0));
        leavesAll(RefusedTest::busy, Check.ARGUMENT, air -> air.craft(0, 0, 10, 10));
        leavesAll(RefusedTest::full, Check.STATE, air -> air.craft(0, 0, 10, 0));
    }

    @Says(NOTHING)
    static void refusedLink() {
        leavesAll(RefusedTest::busy, Check.OUT, air -> air.link(3, false) ? 1 : 0);
        leavesAll(RefusedTest::busy, Check.OUT, air -> air.link(-1, false) ? 1 : 0);
    }

    @Says(NOTHING)
    static void refusedFetch() {
        leavesAll(RefusedTest::busy, Check.OUT, air -> air.fetch(3));
        leavesAll(RefusedTest::busy, Check.STATE, air -> air.fetch(0));
        leavesAll(RefusedTest::busy, Check.STATE, air -> air.fetch(1));
    }

    @Says(NOTHING)
    static void refusedDraft() {
        leavesAll(RefusedTest::busy, Check.OUT, air -> air.draft(25));
        leavesAll(RefusedTest::full, Check.OUT, air -> air.draft(-1));
        leavesAll(RefusedTest::full, Check.STATE, air -> air.draft(0));
    }

    @Says(NOTHING)
    static void refusedAsk() {
        leavesAll(RefusedTest::busy, Check.OUT, air -> air.ask(3, 100));
        leavesAll(RefusedTest::busy, Check.ARGUMENT, air -> air.ask(1, 10));
        leavesAll(RefusedTest::busy, Check.ARGUMENT, air -> air.ask(1, 2011));
        leavesAll(RefusedTest::full, Check.STATE, air -> air.ask(5, 500));
    }

    @Says(NOTHING)
    static void refusedAskWithoutAWay() {
        leavesAll(RefusedTest::withoutAWay, Check.STATE, air -> air.ask(1, 100));
    }

    @Says("Promise 12: 0 less the REASON and 1, if there is one (-2 to -7)")
    static void askWithAReason() {
        leavesAllAsIs(RefusedTest::busy, "a flight of the same craft", air -> air.ask(1, 40));
        leavesAllAsIs(RefusedTest::busy, "too little charge", air -> air.ask(2, 200));
    }

    @Says(NOTHING)
    static void refusedWithdraw() {
        leavesAll(RefusedTest::busy, Check.OUT, air -> air.withdraw(4));
        leavesAll(RefusedTest::busy, Check.OUT, air -> air.withdraw(-1));
        leavesAll(RefusedTest::busy, Check.STATE, air -> air.withdraw(0));
        leavesAll(RefusedTest::busy, Check.STATE, air -> air.withdraw(2));
        leavesAll(RefusedTest::busy, Check.STATE, air -> air.withdraw(3));
    }

    @Says(NOTHING)
    static void refusedPass() {
        leavesAll(RefusedTest::busy, Check.ARGUMENT, air -> air.pass(0));
        leavesAll(RefusedTest::busy, Check.ARGUMENT, air -> air.pass(101));
        leavesAll(RefusedTest::late, Check.STATE, air -> air.pass(100));
        leavesAll(RefusedTest::late, Check.STATE, air -> air.pass(46));
    }

    @Says(NOTHING)
    static void refusedQuestions() {
        leavesAll(RefusedTest::busy, Check.OUT, air -> air.ofCell(25, 0));
        leavesAll(RefusedTest::busy, Check.ARGUMENT, air -> air.ofCell(0, 6));
        leavesAll(RefusedTest::busy, Check.OUT, air -> air.ofCraft(3, 0));
        leavesAll(RefusedTest::busy, Check.ARGUMENT, air -> air.ofCraft(0, 10));
        leavesAll(RefusedTest::busy, Check.OUT, air -> air.ofFlight(4, 0));
        leavesAll(RefusedTest::busy, Check.ARGUMENT, air -> air.ofFlight(0, 5));
        leavesAll(RefusedTest::busy, Check.OUT, air -> air.occupies(25, 0));
        leavesAll(RefusedTest::busy, Check.ARGUMENT, air -> air.occupies(0, -1));
        leavesAll(RefusedTest::busy, Check.ARGUMENT, air -> air.many(16));
    }

    @Says(NOTHING)
    static void refusedQuestionsOfWhatWouldBe() {
        leavesAll(RefusedTest::busy, Check.OUT, air -> air.why(3, 100));
        leavesAll(RefusedTest::busy, Check.ARGUMENT, air -> air.why(0, 10));
        leavesAll(RefusedTest::withoutAWay, Check.STATE, air -> air.why(0, 100));
        leavesAll(RefusedTest::busy, Check.OUT, air -> air.soonest(3));
        leavesAll(RefusedTest::withoutAWay, Check.STATE, air -> air.soonest(0));
        leavesAll(RefusedTest::busy, Check.OUT, air -> air.way(0, 25));
        leavesAll(RefusedTest::busy, Check.OUT, air -> air.cost(3, 0));
        leavesAll(RefusedTest::busy, Check.ARGUMENT, air -> air.wouldNear(101));
        leavesAll(RefusedTest::busy, Check.OUT, air -> air.wouldHave(3, 1));
        leavesAll(RefusedTest::busy, Check.ARGUMENT, air -> air.wouldHave(0, 0));
    }

    @Says(ASKED)
    static void questionsOfWhatWouldBe() {
        leavesAllAsIs(RefusedTest::busy, "why without a reason", air -> air.why(1, 100));
        leavesAllAsIs(RefusedTest::busy, "why with a reason", air -> air.why(1, 40));
        leavesAllAsIs(RefusedTest::busy, "soonest", air -> air.soonest(1));
        leavesAllAsIs(RefusedTest::busy, "way", air -> air.way(0, 24));
        leavesAllAsIs(RefusedTest::busy, "cost", air -> air.cost(0, 24));
        leavesAllAsIs(RefusedTest::busy, "wouldNear(1)", air -> air.wouldNear(1));
        leavesAllAsIs(RefusedTest::busy, "wouldNear(100)", air -> air.wouldNear(100));
        leavesAllAsIs(RefusedTest::busy, "wouldHave(0, 1)", air -> air.wouldHave(0, 1));
        leavesAllAsIs(RefusedTest::busy, "wouldHave(0, 100)", air -> air.wouldHave(0, 100));
        leavesAllAsIs(RefusedTest::busy, "digest", LowAir::digest);
        leavesAllAsIs(RefusedTest::full, "digest of the most", LowAir::digest);
        leavesAllAsIs(RefusedTest::late, "wouldHave above 5000", air -> air.wouldHave(0, 100));
    }

    @Says("Terms: An object is used for at most 512 calls after it has been made")
    static void theLastOf512Calls() {
        LowAir air = withOne();
        // 5 calls so far.
        for (int call = 6; call <= 511; call++) {
            int number = call;
            if (call % 3 == 0) {
                out("call " + call, () -> air.ofCell(25 + number, 0));
            } else {
                Check.same("call " + call, air.houses(7, call % 10), call == 7 ? 0 : housesBefore(call));
            }
        }
        Check.same("the last call", air.ofCell(7, 0), 511 % 10);
    }

    /** The houses that the call before it told, of those that are not divided by 3. */
    private static int housesBefore(int call) {
        int before = (call - 1) % 3 == 0 ? call - 2 : call - 1;
        return before % 10;
    }

    @Says("Part 2: The DRAFT is a row of at most 10 CELLS")
    static void whatTheyBeginWithIsFull() {
        LowAir air = full();
        int[] due = {10, 5, 6, 6, 12, 10};
        for (int what = 0; what <= 5; what++) {
            Check.same("many(" + what + ")", air.many(what), due[what]);
        }
        Check.same("its draft is a way", air.why(0, 500), 0);
    }

    // ---- what they begin with

    /** At 10: flights that fly, are approved, broken and withdrawn, a wind, zones, a tower, a draft that is a way. */
    private static LowAir busy() {
        LowAir air = withCorners();
        air.houses(1, 4);
        air.houses(2, 3);
        air.zone(2, 0, 2, 2);
        air.zone(7, 23, 1, 4);
        air.tower(12, true);
        air.craft(0, 2, 100, 2);
        air.craft(1, 0, 60, 1);
        air.craft(3, 3, 18, 0);
        ask(air, 0, 3, 0, 1, 2, 3, 4);
        ask(air, 1, 40, 4, 9, 4);
        ask(air, 2, 4, 24, 23, 22, 21, 20);
        ask(air, 1, 90, 4, 9, 14, 9, 4);
        air.withdraw(3);
        air.wind(1, 1);
        air.pass(8);
        air.link(2, false);
        air.pass(2);
        draft(air, 4, 9, 4);
        return air;
    }

    private static LowAir withoutAWay() {
        LowAir air = busy();
        draft(air, 4, 9, 3);
        return air;
    }

    /** As many of everything as there may be, at 10. */
    private static LowAir full() {
        LowAir air = withPads(0, 4, 20, 24, 5);
        int[] rows = {1, 3, 21, 23, 6};
        int[] pads = {0, 4, 20, 24, 5};
        for (int i = 0; i < 6; i++) {
            air.craft(i % 5, i % 4, 60 + i, i);
            air.zone(12, i, i + 1, 1 + i % 4);
        }
        for (int i = 0; i < 12; i++) {
            ask(air, i % 5, 8 + 20 * (i / 5), pads[i % 5], rows[i % 5], pads[i % 5]);
        }
        air.pass(10);
        draft(air, 0, 1, 2, 3, 8, 7, 6, 11, 10, 5);
        return air;
    }

    /** As busy(), but near to 5000: at 4955. */
    private static LowAir late() {
        LowAir air = busy();
        passTo(air, 4955);
        draft(air, 0, 5, 0);
        air.link(0, true);
        ask(air, 0, 4990, 4, 9, 4);
        return air;
    }

    // ---- how they are compared

    private static void leavesAll(Supplier<LowAir> scene, Class<? extends RuntimeException> due,
            ToLongFunction<LowAir> call) {
        LowAir refused = scene.get();
        Check.refused("the call", due, () -> call.applyAsLong(refused));
        goOnTheSame(refused, scene.get());
    }

    private static void leavesAllAsIs(Supplier<LowAir> scene, String text, ToLongFunction<LowAir> call) {
        LowAir asked = scene.get();
        Check.same(text + " twice", call.applyAsLong(asked), call.applyAsLong(asked));
        goOnTheSame(asked, scene.get());
    }

    /** The digest tells most of it; what it does not tell shows as the minutes go by, or as more is told. */
    private static void goOnTheSame(LowAir one, LowAir other) {
        Check.same("digest", one.digest(), other.digest());
        for (int i = 0; i < 45; i++) {
            Check.same("done in minute " + i, one.pass(1), other.pass(1));
            Check.same("digest in minute " + i, one.digest(), other.digest());
        }
        for (int cell = 0; cell < 25; cell++) {
            Check.same("cost to " + cell, one.cost(0, cell), other.cost(0, cell));
        }
        Check.same("the wind before", one.wind(0, 0), other.wind(0, 0));
        Check.same("the draft before", one.clear(), other.clear());
        Check.same("the link before", one.link(2 % one.many(3), true), other.link(2 % other.many(3), true));
        one.draft(0);
        one.draft(1);
        one.draft(0);
        other.draft(0);
        other.draft(1);
        other.draft(0);
        Check.same("why", one.why(0, one.many(0) + 10), other.why(0, other.many(0) + 10));
        Check.same("digest at last", one.digest(), other.digest());
    }
}
