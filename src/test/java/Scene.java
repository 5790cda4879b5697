/** What several tests begin with, and the calls that they make again and again. */
abstract class Scene {
    static final int NONE = -1;
    static final int LOW = Integer.MIN_VALUE;
    static final int HIGH = Integer.MAX_VALUE;

    /** What ofCraft() answers to 6. */
    static final int LIES = 0;
    static final int FLIES = 1;
    static final int DOWN = 2;

    /** What ofFlight() answers to 0. */
    static final int APPROVED = 0;
    static final int FLYING = 1;
    static final int DONE = 2;
    static final int WITHDRAWN = 3;
    static final int MISSED = 4;
    static final int BROKEN = 5;
    static final int LOST = 6;

    /** Pads 0 to 3 in the corners 0, 4, 20 and 24. */
    static LowAir withCorners() {
        return withPads(0, 4, 20, 24);
    }

    static LowAir withPads(int... cells) {
        LowAir air = new LowAir();
        for (int cell : cells) {
            air.pad(cell);
        }
        return air;
    }

    /** Craft 0 in the corner 0: class 0, battery 200, loudness 0. */
    static LowAir withOne() {
        return withOne(200);
    }

    static LowAir withOne(int battery) {
        LowAir air = withCorners();
        air.craft(0, 0, battery, 0);
        return air;
    }

    /** Craft 0 in the corner 0 and craft 1 in the corner 4. */
    static LowAir withTwo() {
        LowAir air = withOne();
        air.craft(1, 0, 200, 0);
        return air;
    }

    /** At a minute from 15 on: craft 0, without its link, and craft 1, that starts then, are near in 1 at 27 and 28. */
    static LowAir withTwoNearAt27(int minute) {
        LowAir air = withPads(0, 24, 1);
        air.craft(0, 0, 200, 0);
        air.craft(2, 0, 200, 0);
        ask(air, 0, 1, 0, 5, 6, 7, 8, 13, 14, 19, 24);
        ask(air, 1, 27, 1, 6, 1);
        passTo(air, 15);
        // Its flight is going to be broken at 17 in 19: it goes home by 14, 9, 4, 3 and 2 into 1.
        air.link(0, false);
        passTo(air, minute);
        return air;
    }

    static void draft(LowAir air, int... cells) {
        air.clear();
        for (int cell : cells) {
            air.draft(cell);
        }
    }

    static int ask(LowAir air, int craft, int start, int... cells) {
        draft(air, cells);
        return air.ask(craft, start);
    }

    static int why(LowAir air, int craft, int start, int... cells) {
        draft(air, cells);
        return air.why(craft, start);
    }

    static void passTo(LowAir air, int minute) {
        int now = air.many(0);
        while (now < minute) {
            int minutes = Math.min(100, minute - now);
            air.pass(minutes);
            now += minutes;
        }
    }

    static void craftIs(LowAir air, int craft, int state, int cell, int charge) {
        Check.same("craft " + craft + " lies 0, flies 1, is down 2", air.ofCraft(craft, 6), state);
        Check.same("the cell of craft " + craft, air.ofCraft(craft, 7), cell);
        Check.same("the charge of craft " + craft, air.ofCraft(craft, 3), charge);
    }

    static void flightIs(LowAir air, int flight, int state) {
        Check.same("the state of flight " + flight, air.ofFlight(flight, 0), state);
    }

    static void out(String what, Check.Call call) {
        Check.refused(what, Check.OUT, call);
    }

    static void argument(String what, Check.Call call) {
        Check.refused(what, Check.ARGUMENT, call);
    }

    static void state(String what, Check.Call call) {
        Check.refused(what, Check.STATE, call);
    }
}
