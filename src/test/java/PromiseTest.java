/** Each promise of the document by itself: ordinary inputs, its edges, wrong inputs and the order of exceptions. */
public final class PromiseTest extends Scene {
    private PromiseTest() {
    }

    public static void main(String[] args) {
        promise1NewObject();
        promise2Houses();
        promise3Tower();
        promise4Pad();
        promise5Zone();
        promise6Wind();
        promise7Craft();
        promise8Link();
        promise9Fetch();
        promise10Draft();
        promise11Clear();
        promise12Ask();
        promise12Reasons();
        promise12ReasonOthers();
        promise12ReasonSameCraft();
        promise12ReasonCharge();
        promise12ReasonNoise();
        promise13Withdraw();
        promise14Pass();
        promise14Starts();
        promise14Moves();
        promise14Broken();
        promise14Lost();
        promise14NearAndCharge();
        promise14NoiseAndBreaches();
        promise15OfCell();
        promise16OfCraft();
        promise17OfFlight();
        promise18Occupies();
        promise19Many();
        promise20MeanCharge();
        promise21Why();
        promise22Soonest();
        promise23Way();
        promise24Cost();
        promise25WouldNear();
        promise26WouldHave();
        promise27Digest();
        Check.end();
    }

    // ---- what the tests share

    private static void refusedCells(String name, LowAir air, java.util.function.IntFunction<Check.Call> call) {
        for (int cell : new int[] {-1, 25, LOW, HIGH}) {
            Check.refused(name + " of cell " + cell, Check.OUT, call.apply(cell));
        }
    }

    /** None of the calls that are refused may change anything. */
    private static void unchanged(LowAir air, long digest) {
        Check.same("digest behind what was refused", air.digest(), digest);
    }

    // ---- what is told

    private static void promise1NewObject() {
        Check.part("promise 1, LowAir()");
        LowAir air = new LowAir();
        for (int what = 0; what <= 15; what++) {
            Check.same("many(" + what + ")", air.many(what), 0);
        }
        for (int cell = 0; cell < 25; cell++) {
            for (int what = 0; what <= 5; what++) {
                Check.same("ofCell(" + cell + ", " + what + ")", air.ofCell(cell, what), what == 2 ? NONE : 0);
            }
            Check.same("occupies", air.occupies(cell, 1), NONE);
        }
        Check.sameDouble("meanCharge", air.meanCharge(), 0);
        Check.same("digest", air.digest(), 1274005811342519567L);
        LowAir other = new LowAir();
        other.houses(3, 4);
        Check.same("houses of another object", air.ofCell(3, 0), 0);
    }

    private static void promise2Houses() {
        Check.part("promise 2, houses");
        LowAir air = new LowAir();
        Check.same("houses(7, 5)", air.houses(7, 5), 0);
        Check.same("houses(7, 9)", air.houses(7, 9), 5);
        Check.same("houses(7, 0)", air.houses(7, 0), 9);
        Check.same("houses(0, 1)", air.houses(0, 1), 0);
        Check.same("houses(24, 2)", air.houses(24, 2), 0);
        Check.same("ofCell(0, 0)", air.ofCell(0, 0), 1);
        Check.same("ofCell(24, 0)", air.ofCell(24, 0), 2);
        Check.same("ofCell(7, 0)", air.ofCell(7, 0), 0);
        long before = air.digest();
        refusedCells("houses", air, cell -> () -> air.houses(cell, 3));
        refusedCells("houses, both wrong,", air, cell -> () -> air.houses(cell, 10));
        for (int houses : new int[] {-1, 10, LOW, HIGH}) {
            Check.refused("houses " + houses, Check.ARGUMENT, () -> air.houses(7, houses));
        }
        unchanged(air, before);
    }

    private static void promise3Tower() {
        Check.part("promise 3, tower");
        LowAir air = new LowAir();
        air.pad(12);
        Check.same("tower(0, true)", air.tower(0, true), false);
        Check.same("tower(0, true) again", air.tower(0, true), true);
        Check.same("ofCell(0, 1)", air.ofCell(0, 1), 1);
        Check.same("tower(0, false)", air.tower(0, false), true);
        Check.same("tower(0, false) again", air.tower(0, false), false);
        Check.same("ofCell(0, 1)", air.ofCell(0, 1), 0);
        Check.same("tower(24, true)", air.tower(24, true), false);
        long before = air.digest();
        refusedCells("tower", air, cell -> () -> air.tower(cell, true) ? 1 : 0);
        Check.refused("tower on a pad", Check.STATE, () -> air.tower(12, true) ? 1 : 0);
        Check.refused("no tower on a pad", Check.STATE, () -> air.tower(12, false) ? 1 : 0);
        unchanged(air, before);
    }

    private static void promise4Pad() {
        Check.part("promise 4, pad");
        LowAir air = new LowAir();
        air.tower(5, true);
        Check.same("pad(0)", air.pad(0), 0);
        Check.same("pad(24)", air.pad(24), 1);
        Check.same("ofCell(24, 2)", air.ofCell(24, 2), 1);
        long before = air.digest();
        refusedCells("pad", air, cell -> () -> air.pad(cell));
        Check.refused("pad on a tower", Check.ARGUMENT, () -> air.pad(5));
        Check.refused("pad on a pad", Check.ARGUMENT, () -> air.pad(24));
        unchanged(air, before);
        air.tower(5, false);
        Check.same("pad where a tower was", air.pad(5), 2);
        Check.same("pad(6)", air.pad(6), 3);
        Check.same("pad(7)", air.pad(7), 4);
        air.tower(8, true);
        long full = air.digest();
        Check.refused("a sixth pad", Check.STATE, () -> air.pad(9));
        Check.refused("a sixth pad on a pad", Check.ARGUMENT, () -> air.pad(7));
        Check.refused("a sixth pad on a tower", Check.ARGUMENT, () -> air.pad(8));
        Check.refused("a sixth pad nowhere", Check.OUT, () -> air.pad(25));
        unchanged(air, full);
        Check.same("many(1)", air.many(1), 5);
    }

    private static void promise5Zone() {
        Check.part("promise 5, zone");
        LowAir air = new LowAir();
        refusedCells("zone", air, cell -> () -> air.zone(cell, 0, 0, 1));
        refusedCells("zone, all wrong,", air, cell -> () -> air.zone(cell, 24, 0, 0));
        for (int hour : new int[] {-1, 24, LOW, HIGH}) {
            Check.refused("zone from " + hour, Check.ARGUMENT, () -> air.zone(0, hour, 0, 1));
            Check.refused("zone to " + hour, Check.ARGUMENT, () -> air.zone(0, 0, hour, 1));
        }
        for (int least : new int[] {-1, 0, 5, LOW, HIGH}) {
            Check.refused("zone of least " + least, Check.ARGUMENT, () -> air.zone(0, 0, 0, least));
        }
        for (int i = 0; i < 6; i++) {
            Check.same("zone " + i, air.zone(i < 3 ? 0 : 24, i % 2 == 0 ? 0 : 23, i % 3 == 0 ? 0 : 23, 1 + i % 4), i);
        }
        Check.same("many(2)", air.many(2), 6);
        Check.refused("a seventh zone", Check.STATE, () -> air.zone(1, 0, 0, 1));
        Check.refused("a seventh zone, wrong", Check.ARGUMENT, () -> air.zone(1, 0, 0, 0));
        Check.refused("a seventh zone nowhere", Check.OUT, () -> air.zone(25, 0, 0, 1));
        Check.same("many(2)", air.many(2), 6);
        zoneHours();
        zoneClasses();
    }

    /** way() asks for the zones at NOW: 12 is walled in but for 7. */
    private static LowAir walledIn() {
        LowAir air = new LowAir();
        air.pad(12);
        air.tower(11, true);
        air.tower(13, true);
        air.tower(17, true);
        for (int rank = 0; rank <= 3; rank++) {
            air.craft(0, rank, 10, 0);
        }
        return air;
    }

    private static void zoneHours() {
        int[][] fromTo = {{2, 5}, {22, 3}, {4, 4}, {0, 23}, {23, 0}, {0, 1}, {1, 0}};
        for (int[] hours : fromTo) {
            LowAir air = walledIn();
            air.zone(7, hours[0], hours[1], 4);
            for (int minute = 10; minute <= 1620; minute += 10) {
                passTo(air, minute);
                int hour = minute / 60 % 24;
                boolean isShut = hours[0] == hours[1];
                for (int h = hours[0]; h != hours[1]; h = (h + 1) % 24) {
                    isShut |= h == hour;
                }
                String zone = "zone from " + hours[0] + " to " + hours[1] + " at minute " + minute + ": way";
                Check.same(zone, air.way(0, 7), isShut ? NONE : 1);
            }
        }
        LowAir air = walledIn();
        air.zone(7, 1, 2, 4);
        passTo(air, 59);
        Check.same("way in the last minute ahead of it", air.way(0, 7), 1);
        passTo(air, 60);
        Check.same("way in its first minute", air.way(0, 7), NONE);
        passTo(air, 119);
        Check.same("way in its last minute", air.way(0, 7), NONE);
        passTo(air, 120);
        Check.same("way in the first minute behind it", air.way(0, 7), 1);
    }

    private static void zoneClasses() {
        for (int least = 1; least <= 4; least++) {
            LowAir air = walledIn();
            air.zone(7, 0, 0, least);
            for (int rank = 0; rank <= 3; rank++) {
                Check.same("least " + least + ", class " + rank + ": way", air.way(rank, 7), rank < least ? NONE : 1);
            }
        }
    }

    private static void promise6Wind() {
        Check.part("promise 6, wind");
        LowAir air = new LowAir();
        Check.same("wind(1, 3)", air.wind(1, 3), 0);
        Check.same("wind(0, 1)", air.wind(0, 1), 3);
        Check.same("wind(3, 0)", air.wind(3, 0), 1);
        Check.same("wind(2, 2)", air.wind(2, 2), 0);
        for (int wrong : new int[] {-1, 4, LOW, HIGH}) {
            Check.refused("direction " + wrong, Check.ARGUMENT, () -> air.wind(wrong, 1));
            Check.refused("force " + wrong, Check.ARGUMENT, () -> air.wind(1, wrong));
        }
        Check.same("wind behind what was refused", air.wind(0, 3), 2);
        air.pad(12);
        air.craft(0, 0, 100, 0);
        // The cost of one move to the north, east, south and west by each wind of force 3.
        int[][] costs = {{1, 4, 7, 4}, {4, 1, 4, 7}, {7, 4, 1, 4}, {4, 7, 4, 1}};
        int[] cells = {7, 13, 17, 11};
        for (int to = 0; to < 4; to++) {
            air.wind(to, 3);
            for (int i = 0; i < 4; i++) {
                Check.same("wind " + to + ", cost to " + cells[i], air.cost(0, cells[i]), costs[to][i]);
            }
        }
        air.wind(0, 2);
        Check.same("cost with force 2", air.cost(0, 7), 2);
        Check.same("cost against force 2", air.cost(0, 17), 6);
        air.wind(0, 0);
        Check.same("cost without force", air.cost(0, 7), 4);
    }

    private static void promise7Craft() {
        Check.part("promise 7, craft");
        LowAir air = new LowAir();
        Check.refused("craft without pads", Check.OUT, () -> air.craft(0, 0, 10, 0));
        air.pad(6);
        air.pad(9);
        for (int pad : new int[] {-1, 2, LOW, HIGH}) {
            Check.refused("craft at pad " + pad, Check.OUT, () -> air.craft(pad, 0, 10, 0));
            Check.refused("craft, all wrong, at pad " + pad, Check.OUT, () -> air.craft(pad, 4, 9, 10));
        }
        for (int rank : new int[] {-1, 4, LOW, HIGH}) {
            Check.refused("craft of class " + rank, Check.ARGUMENT, () -> air.craft(0, rank, 10, 0));
        }
        for (int battery : new int[] {9, 201, -10, LOW, HIGH}) {
            Check.refused("craft of battery " + battery, Check.ARGUMENT, () -> air.craft(0, 0, battery, 0));
        }
        for (int loudness : new int[] {-1, 10, LOW, HIGH}) {
            Check.refused("craft of loudness " + loudness, Check.ARGUMENT, () -> air.craft(0, 0, 10, loudness));
        }
        Check.same("many(3)", air.many(3), 0);
        Check.same("craft(1, 3, 200, 9)", air.craft(1, 3, 200, 9), 0);
        Check.same("craft(0, 0, 10, 0)", air.craft(0, 0, 10, 0), 1);
        Check.same("craft(0, 1, 55, 4)", air.craft(0, 1, 55, 4), 2);
        int[][] due = {{3, 1, 200, 200, 9, 1, 0, 9, NONE, 0}, {0, 0, 10, 10, 0, 1, 0, 6, NONE, 0},
            {1, 0, 55, 55, 4, 1, 0, 6, NONE, 0}};
        for (int craft = 0; craft < 3; craft++) {
            for (int what = 0; what <= 9; what++) {
                Check.same("ofCraft(" + craft + ", " + what + ")", air.ofCraft(craft, what), due[craft][what]);
            }
        }
        for (int i = 3; i < 6; i++) {
            Check.same("craft " + i, air.craft(0, 0, 10, 0), i);
        }
        Check.refused("a seventh craft", Check.STATE, () -> air.craft(0, 0, 10, 0));
        Check.refused("a seventh craft, wrong", Check.ARGUMENT, () -> air.craft(0, 0, 9, 0));
        Check.refused("a seventh craft nowhere", Check.OUT, () -> air.craft(2, 0, 10, 0));
        Check.same("many(3)", air.many(3), 6);
    }

    private static void promise8Link() {
        Check.part("promise 8, link");
        LowAir air = withCorners();
        Check.refused("link without craft", Check.OUT, () -> air.link(0, true) ? 1 : 0);
        air.craft(0, 0, 50, 0);
        air.craft(0, 0, 50, 0);
        Check.same("link(0, false)", air.link(0, false), true);
        Check.same("ofCraft(0, 5)", air.ofCraft(0, 5), 0);
        Check.same("ofCraft(1, 5)", air.ofCraft(1, 5), 1);
        Check.same("link(0, false) again", air.link(0, false), false);
        Check.same("link(0, true)", air.link(0, true), false);
        Check.same("link(0, true) again", air.link(0, true), true);
        Check.same("ofCraft(0, 5)", air.ofCraft(0, 5), 1);
        for (int craft : new int[] {-1, 2, LOW, HIGH}) {
            Check.refused("link of craft " + craft, Check.OUT, () -> air.link(craft, false) ? 1 : 0);
        }
    }

    private static void promise9Fetch() {
        Check.part("promise 9, fetch");
        LowAir air = withCorners();
        Check.refused("fetch without craft", Check.OUT, () -> air.fetch(0));
        air.craft(1, 0, 20, 0);
        air.craft(0, 0, 18, 0);
        ask(air, 1, 1, 0, 1, 2, 3, 4);
        air.wind(3, 3);
        Check.refused("fetch of one that lies", Check.STATE, () -> air.fetch(1));
        air.pass(5);
        Check.refused("fetch of one that flies", Check.STATE, () -> air.fetch(1));
        air.pass(2);
        Check.same("ofCraft(1, 6)", air.ofCraft(1, 6), 2);
        Check.refused("fetch of none", Check.OUT, () -> air.fetch(2));
        Check.refused("fetch of -1", Check.OUT, () -> air.fetch(-1));
        air.pass(3);
        Check.same("charge of one that is down", air.ofCraft(1, 3), 0);
        Check.same("fetch(1)", air.fetch(1), 2);
        Check.same("it lies", air.ofCraft(1, 6), 0);
        Check.same("at home", air.ofCraft(1, 7), 0);
        Check.same("with its charge of before", air.ofCraft(1, 3), 0);
        Check.same("without a flight", air.ofCraft(1, 8), NONE);
        Check.refused("fetch again", Check.STATE, () -> air.fetch(1));
        air.pass(1);
        Check.same("it gets charge", air.ofCraft(1, 3), 3);
        Check.same("its flight stays lost", air.ofFlight(0, 0), 6);
    }

    // ---- flights

    private static void promise10Draft() {
        Check.part("promise 10, draft");
        LowAir air = new LowAir();
        refusedCells("draft", air, cell -> () -> air.draft(cell));
        int[] cells = {0, 24, 0, 0, 13, 1, 2, 3, 4, 5};
        for (int i = 0; i < 10; i++) {
            Check.same("draft(" + cells[i] + ")", air.draft(cells[i]), i + 1);
        }
        Check.refused("an eleventh cell", Check.STATE, () -> air.draft(6));
        Check.refused("an eleventh cell, wrong", Check.OUT, () -> air.draft(25));
        Check.same("many(5)", air.many(5), 10);
    }

    private static void promise11Clear() {
        Check.part("promise 11, clear");
        LowAir air = withCorners();
        air.craft(0, 0, 50, 0);
        Check.same("clear of an empty one", air.clear(), 0);
        air.draft(3);
        air.draft(4);
        Check.same("clear", air.clear(), 2);
        Check.same("many(5)", air.many(5), 0);
        Check.same("draft behind clear", air.draft(0), 1);
        for (int i = 0; i < 9; i++) {
            air.draft(0);
        }
        Check.same("clear of a full one", air.clear(), 10);
        Check.refused("no way any more", Check.STATE, () -> air.why(0, 1));
    }

    private static void promise12Ask() {
        Check.part("promise 12, ask");
        LowAir air = withCorners();
        Check.refused("ask without craft", Check.OUT, () -> air.ask(0, 0));
        air.craft(0, 0, 200, 0);
        air.pass(10);
        draft(air, 0, 1, 0);
        long before = air.digest();
        for (int craft : new int[] {-1, 1, LOW, HIGH}) {
            Check.refused("ask of craft " + craft, Check.OUT, () -> air.ask(craft, 11));
            Check.refused("ask, both wrong, of craft " + craft, Check.OUT, () -> air.ask(craft, 10));
        }
        for (int start : new int[] {10, 9, 0, -1, 2011, LOW, HIGH}) {
            Check.refused("ask for start " + start, Check.ARGUMENT, () -> air.ask(0, start));
        }
        unchanged(air, before);
        Check.same("ask at the last start", air.ask(0, 2010), 0);
        Check.same("the draft is cleared", air.many(5), 0);
        Check.same("its start", air.ofFlight(0, 2), 2010);
        Check.refused("ask, start wrong, of no draft", Check.ARGUMENT, () -> air.ask(0, 10));
        wrongDrafts(air);
        Check.same("ask at the first start", ask(air, 0, 11, 0, 1, 0), 1);
        draft(air, 0, 1, 2, 3, 8, 9, 14, 9, 4);
        air.tower(8, true);
        Check.same("ask with a reason", air.ask(0, 500), -2);
        Check.same("the draft is kept", air.many(5), 9);
        air.tower(8, false);
        Check.same("ask without", air.ask(0, 500), 2);
        Check.same("its cells", air.ofFlight(2, 4), 9);
        draft(air, 4, 4);
        Check.same("the flight has a row of its own", air.occupies(8, 508), 2);
        for (int i = 3; i < 12; i++) {
            Check.same("flight " + i, ask(air, 0, 500 + 30 * i, 0, 1, 0), i);
        }
        draft(air, 0, 1, 0);
        Check.refused("a thirteenth flight", Check.STATE, () -> air.ask(0, 30));
        Check.refused("a thirteenth flight, start wrong", Check.ARGUMENT, () -> air.ask(0, 10));
        air.tower(1, true);
        Check.refused("a thirteenth flight with a reason", Check.STATE, () -> air.ask(0, 30));
        air.withdraw(11);
        Check.refused("a thirteenth flight behind a withdrawal", Check.STATE, () -> air.ask(0, 30));
        Check.same("many(4)", air.many(4), 12);
        shortestAndLongest();
    }

    private static void shortestAndLongest() {
        LowAir air = new LowAir();
        air.pad(0);
        air.pad(1);
        air.craft(0, 0, 200, 0);
        Check.same("2 cells", ask(air, 0, 1, 0, 1), 0);
        Check.same("done at minute 3", air.pass(3), 1);
        Check.same("10 cells", ask(air, 0, 10, 1, 2, 3, 8, 7, 6, 5, 10, 5, 0), 1);
        Check.same("its end", air.ofFlight(1, 3), 28);
        air.pass(24);
        Check.same("not yet done", air.ofFlight(1, 0), 1);
        Check.same("done at minute 28", air.pass(1), 1);
        Check.same("lies at its end", air.ofCraft(0, 7), 0);
    }

    private static void wrongDrafts(LowAir air) {
        int[][] wrong = {{}, {0}, {0, 0}, {0, 1}, {1, 0}, {1, 2}, {0, 2, 4}, {0, 6, 0}, {0, 5, 4}, {4, 5, 0, 1, 0},
            {0, 1, 1, 0}, {0, 4}, {0, 20}, {0, 1, 2, 3, 4, 5}, {4, 9, 10, 5, 0}, {0, 5, 10, 15, 20, 25 - 1}};
        for (int[] cells : wrong) {
            draft(air, cells);
            String text = "draft " + java.util.Arrays.toString(cells);
            Check.refused("ask with " + text, Check.STATE, () -> air.ask(0, 1000));
            Check.refused("why with " + text, Check.STATE, () -> air.why(0, 1000));
            Check.refused("soonest with " + text, Check.STATE, () -> air.soonest(0));
        }
    }

    private static void promise12Reasons() {
        Check.part("promise 12, reasons 1 and 2");
        LowAir air = withCorners();
        air.craft(0, 1, 200, 1);
        air.tower(2, true);
        Check.same("tower on the way", ask(air, 0, 5, 0, 1, 2, 3, 4), -2);
        Check.same("tower beside the way", ask(air, 0, 5, 0, 1, 6, 7, 8, 9, 4), 0);
        air.withdraw(0);
        // Built later, it stops nobody.
        Check.same("way to a tower to come", ask(air, 0, 2, 0, 1, 0), 1);
        air.tower(1, true);
        Check.same("over the tower", air.pass(10), 1);
        air.tower(1, false);
        air.zone(1, 2, 3, 2);
        // Cell 1 is the second one: occupied from start + 1 to start + 3.
        Check.same("zone from the next minute on", ask(air, 0, 116, 0, 1, 0), 2);
        air.withdraw(2);
        Check.same("zone in its last minute there", ask(air, 0, 117, 0, 1, 0), -3);
        Check.same("zone in its only minute there", ask(air, 0, 118, 0, 1, 0), -3);
        Check.same("zone to its first minute there", ask(air, 0, 178, 0, 1, 0), -3);
        Check.same("zone up to its first minute there", ask(air, 0, 179, 0, 1, 0), 3);
        air.withdraw(3);
        Check.same("zone on the next day", ask(air, 0, 1440 + 120, 0, 1, 0), -3);
        air.craft(0, 2, 200, 1);
        Check.same("class that may", ask(air, 1, 120, 0, 1, 0), 4);
        air.tower(2, true);
        Check.same("tower goes first", ask(air, 0, 120, 0, 1, 2, 1, 0), -2);
        LowAir first = withCorners();
        first.craft(0, 0, 200, 0);
        first.zone(0, 1, 2, 1);
        Check.same("zone at the minute ahead of the start", ask(first, 0, 120, 0, 1, 0), -3);
        Check.same("the minute behind that", ask(first, 0, 121, 0, 1, 0), 0);
    }

    private static void promise12ReasonOthers() {
        Check.part("promise 12, reason 3");
        LowAir air = withCorners();
        for (int i = 0; i < 3; i++) {
            air.craft(0, 0, 200, 0);
        }
        Check.same("flight 0", ask(air, 0, 10, 0, 1, 2, 3, 4), 0);
        for (int start = 6; start <= 14; start++) {
            // It comes into cell 1 at start + 2 and back into 0 at start + 4; the other is in 0 at 10, in 1 at 12.
            boolean meets = start + 4 >= 8 && start <= 12;
            draft(air, 0, 1, 0);
            Check.same("why of another at " + start, air.why(1, start), meets ? 3 : 0);
        }
        Check.same("no cell in common", ask(air, 1, 10, 20, 21, 20), 1);
        draft(air, 20, 21, 20);
        Check.same("one cell in common", air.why(2, 14), 3);
        air.withdraw(1);
        Check.same("withdrawn, it is in nobody's way", air.why(2, 14), 0);
        passTo(air, 12);
        Check.same("flying", air.ofFlight(0, 0), 1);
        draft(air, 4, 3, 4);
        Check.same("one that flies is in the way", air.why(1, 16), 3);
        air.link(0, false);
        air.pass(2);
        Check.same("broken", air.ofFlight(0, 0), 5);
        Check.same("one that is broken is not", air.why(1, 16), 0);
        oneCellInCommon();
        LowAir tooLow = withCorners();
        tooLow.craft(0, 0, 200, 0);
        tooLow.craft(0, 0, 10, 9);
        tooLow.houses(1, 9);
        ask(tooLow, 0, 10, 0, 1, 0);
        Check.same("others go ahead of charge and noise", ask(tooLow, 1, 10, 0, 1, 2, 3, 4), -4);
        tooLow.zone(1, 0, 0, 1);
        Check.same("a zone goes ahead of others", tooLow.ask(1, 10), -3);
    }

    private static void oneCellInCommon() {
        LowAir air = withCorners();
        air.craft(0, 0, 200, 0);
        air.craft(0, 0, 200, 0);
        // It is in 4 from 17 to 19, and nowhere else where the others are.
        Check.same("flight 0", ask(air, 0, 10, 0, 1, 2, 3, 4), 0);
        for (int start = 5; start <= 25; start++) {
            draft(air, 4, 9, 4);
            boolean meets = start >= 12 && start <= 20;
            Check.same("in 4 at start and 4 later, why at " + start, air.why(1, start), meets ? 3 : 0);
            draft(air, 4, 9, 14, 9, 4);
            meets = start >= 8 && start <= 12 || start >= 16 && start <= 20;
            Check.same("in 4 at start and 8 later, why at " + start, air.why(1, start), meets ? 3 : 0);
        }
    }

    private static void promise12ReasonSameCraft() {
        Check.part("promise 12, reason 4");
        LowAir air = withCorners();
        air.craft(0, 0, 200, 0);
        Check.same("flight 0", ask(air, 0, 20, 0, 1, 0), 0);
        // It ends at 24; one of 3 cells that starts at s ends at s + 4.
        for (int start = 10; start <= 30; start++) {
            boolean meets = 20 <= start + 4 + 2 && 24 >= start - 2;
            draft(air, 4, 3, 4);
            Check.same("why of the same at " + start, air.why(0, start), meets ? 4 : 0);
        }
        Check.same("the same craft is no other", ask(air, 0, 20, 0, 1, 0), -5);
        air.withdraw(0);
        Check.same("withdrawn", air.why(0, 20), 0);
        Check.same("flight 1", ask(air, 0, 30, 0, 1, 0), 1);
        passTo(air, 32);
        draft(air, 4, 3, 4);
        Check.same("flying", air.why(0, 36), 4);
        Check.same("flying, 3 minutes behind", air.why(0, 37), 0);
        passTo(air, 34);
        Check.same("done", air.why(0, 36), 0);
        LowAir both = withCorners();
        both.craft(0, 0, 10, 0);
        both.craft(0, 0, 200, 0);
        ask(both, 0, 10, 0, 1, 0);
        ask(both, 1, 10, 4, 3, 4);
        Check.same("others go ahead of the same craft", ask(both, 0, 10, 4, 3, 4), -4);
        Check.same("the same craft goes ahead of charge", ask(both, 0, 16, 0, 1, 2, 1, 0), -5);
    }

    private static void promise12ReasonCharge() {
        Check.part("promise 12, reason 5");
        LowAir air = withCorners();
        air.craft(0, 0, 18, 9);
        air.craft(0, 0, 17, 9);
        air.houses(1, 9);
        draft(air, 0, 5, 6, 5, 0);
        Check.same("a charge that is just enough", air.why(0, 5), 0);
        Check.same("one less", air.why(1, 5), 5);
        air.wind(2, 1);
        Check.same("with and against the wind", air.why(0, 5), 0);
        draft(air, 0, 1, 2, 3, 4);
        Check.same("charge goes ahead of noise", air.why(1, 5), 5);
        Check.same("noise", air.why(0, 5), 6);
        air.houses(1, 0);
        air.wind(3, 1);
        Check.same("against the wind", air.why(0, 5), 5);
        air.wind(1, 1);
        Check.same("with the wind", air.why(0, 5), 0);
        air.wind(1, 3);
        air.craft(0, 0, 10, 0);
        Check.same("with a strong wind", air.why(2, 5), 0);
        air.wind(1, 2);
        Check.same("a start and 4 moves of 2", air.why(2, 5), 0);
        air.wind(1, 1);
        Check.same("a start and 4 moves of 3", air.why(2, 5), 5);
        // The charge of now counts, not what it will be.
        air.wind(1, 3);
        ask(air, 0, 1, 0, 5, 0);
        air.pass(5);
        air.wind(0, 0);
        draft(air, 0, 5, 6, 5, 0);
        Check.same("charge behind a flight", air.ofCraft(0, 3), 8);
        Check.same("too little now", air.why(0, 100), 5);
        air.pass(3);
        Check.same("still too little", air.why(0, 100), 5);
        air.pass(1);
        Check.same("enough now", air.why(0, 100), 0);
    }

    private static void promise12ReasonNoise() {
        Check.part("promise 12, reason 6");
        LowAir air = withCorners();
        air.craft(0, 0, 200, 6);
        air.craft(0, 0, 200, 1);
        air.houses(1, 5);
        draft(air, 0, 1, 2, 1, 0);
        Check.same("60 is not too much", air.why(0, 10), 0);
        air.houses(1, 6);
        Check.same("72 by two visits", air.why(0, 10), 6);
        Check.same("36 and 36 on one day", ask(air, 0, 10, 0, 1, 0), 0);
        draft(air, 0, 1, 0);
        Check.same("why", air.why(0, 100), 6);
        Check.same("why of one that is less loud", air.why(1, 100), 0);
        Check.same("why on the last minute of the day", air.why(0, 1439), 6);
        Check.same("why on the next day", air.why(0, 1440), 0);
        draft(air, 0, 5, 0);
        Check.same("a row without the loud cell", air.why(0, 100), 0);
        draft(air, 0, 1, 0);
        passTo(air, 12);
        Check.same("flying", air.why(0, 100), 6);
        passTo(air, 14);
        Check.same("done", air.why(0, 100), 6);
        air.houses(1, 5);
        Check.same("by the houses of now", air.why(0, 100), 0);
        air.houses(1, 6);
        air.link(0, false);
        Check.same("a second one", ask(air, 1, 30, 0, 1, 0), 1);
        Check.same("planned", air.ofCell(1, 4), 42);
        air.withdraw(1);
        Check.same("planned without the withdrawn", air.ofCell(1, 4), 36);
        air.link(1, false);
        ask(air, 1, 30, 0, 1, 0);
        Check.same("planned with it", air.ofCell(1, 4), 42);
        passTo(air, 30);
        Check.same("missed", air.ofFlight(2, 0), 4);
        Check.same("planned without the missed", air.ofCell(1, 4), 36);
        air.link(1, true);
        ask(air, 1, 40, 0, 1, 2, 3, 4);
        passTo(air, 43);
        air.link(1, false);
        Check.same("planned with one that flies", air.ofCell(1, 4), 42);
        air.pass(1);
        Check.same("broken", air.ofFlight(3, 0), 5);
        Check.same("planned without the broken", air.ofCell(1, 4), 36);
        noiseEdge();
    }

    /** 60 of planned noise may be, 61 may not. */
    private static void noiseEdge() {
        for (int loudness = 6; loudness <= 7; loudness++) {
            LowAir air = withCorners();
            air.craft(0, 0, 200, 9);
            air.craft(0, 0, 200, loudness);
            air.houses(1, 1);
            Check.same("36", ask(air, 0, 10, 0, 1, 0, 1, 0, 1, 0, 1, 0), 0);
            Check.same("54", ask(air, 0, 100, 0, 1, 0, 1, 0), 1);
            Check.same("54 + " + loudness, ask(air, 1, 200, 0, 1, 0), loudness == 6 ? 2 : -7);
        }
    }

    private static void promise13Withdraw() {
        Check.part("promise 13, withdraw");
        LowAir air = withCorners();
        Check.refused("withdraw without flights", Check.OUT, () -> air.withdraw(0));
        air.craft(0, 0, 100, 0);
        ask(air, 0, 5, 0, 1, 0);
        ask(air, 0, 50, 0, 1, 0);
        Check.same("withdraw(1)", air.withdraw(1), 50);
        Check.same("its state", air.ofFlight(1, 0), 3);
        Check.refused("withdraw again", Check.STATE, () -> air.withdraw(1));
        for (int flight : new int[] {-1, 2, LOW, HIGH}) {
            Check.refused("withdraw(" + flight + ")", Check.OUT, () -> air.withdraw(flight));
        }
        passTo(air, 5);
        Check.refused("withdraw of one that flies", Check.STATE, () -> air.withdraw(0));
        passTo(air, 10);
        Check.refused("withdraw of one that is done", Check.STATE, () -> air.withdraw(0));
        passTo(air, 60);
        Check.same("the withdrawn one never starts", air.ofFlight(1, 0), 3);
        Check.same("many(9)", air.many(9), 1);
    }

    private static void promise14Pass() {
        Check.part("promise 14, pass");
        LowAir air = withCorners();
        air.craft(0, 0, 100, 0);
        air.craft(3, 0, 100, 0);
        for (int minutes : new int[] {0, -1, 101, LOW, HIGH}) {
            Check.refused("pass(" + minutes + ")", Check.ARGUMENT, () -> air.pass(minutes));
        }
        ask(air, 0, 2, 0, 1, 0);
        ask(air, 1, 3, 24, 23, 24);
        ask(air, 0, 20, 0, 1, 0);
        Check.same("pass(1)", air.pass(1), 0);
        Check.same("NOW", air.many(0), 1);
        Check.same("both are done in them", air.pass(6), 2);
        Check.same("one is done in them", air.pass(100), 1);
        Check.same("none is", air.pass(100), 0);
        Check.same("NOW", air.many(0), 207);
        passTo(air, 4950);
        Check.refused("pass above 5000", Check.STATE, () -> air.pass(51));
        Check.refused("pass above 5000 by 100", Check.STATE, () -> air.pass(100));
        Check.refused("pass of too many above 5000", Check.ARGUMENT, () -> air.pass(101));
        Check.same("NOW", air.many(0), 4950);
        air.pass(50);
        Check.same("NOW", air.many(0), 5000);
        Check.refused("pass behind 5000", Check.STATE, () -> air.pass(1));
        Check.refused("pass of none behind 5000", Check.ARGUMENT, () -> air.pass(0));
    }

    private static void promise14Starts() {
        Check.part("promise 14, starts");
        LowAir air = withCorners();
        air.craft(0, 0, 100, 0);
        ask(air, 0, 3, 0, 1, 2, 3, 4);
        ask(air, 0, 14, 0, 1, 0);
        ask(air, 0, 30, 4, 3, 4);
        air.pass(2);
        Check.same("still approved", air.ofFlight(0, 0), 0);
        air.pass(1);
        Check.same("flying", air.ofFlight(0, 0), 1);
        Check.same("the craft flies", air.ofCraft(0, 6), 1);
        Check.same("in the first cell", air.ofCraft(0, 7), 0);
        Check.same("with it", air.ofCraft(0, 8), 0);
        Check.same("a start costs 2", air.ofCraft(0, 3), 98);
        passTo(air, 14);
        Check.same("lies on another pad", air.ofFlight(1, 0), 4);
        Check.same("the craft lies", air.ofCraft(0, 6), 0);
        air.link(0, false);
        passTo(air, 30);
        Check.same("has no link", air.ofFlight(2, 0), 4);
        air.link(0, true);
        ask(air, 0, 40, 4, 3, 4);
        passTo(air, 40);
        Check.same("lies there with its link", air.ofFlight(3, 0), 1);
        chargeAtStart();
    }

    /** Charge comes behind the starts of a minute, so one that was fetched just now is too late. */
    private static void chargeAtStart() {
        LowAir air = withCorners();
        air.craft(0, 0, 10, 0);
        air.wind(1, 3);
        Check.same("the first", ask(air, 0, 1, 0, 1, 2, 3, 4), 0);
        Check.same("the second", ask(air, 0, 21, 0, 1, 2, 3, 4), 1);
        Check.same("the third", ask(air, 0, 51, 0, 1, 2, 3, 4), 2);
        air.wind(3, 3);
        passTo(air, 20);
        Check.same("lost", air.ofFlight(0, 0), 6);
        air.fetch(0);
        passTo(air, 21);
        Check.same("missed with a charge of 0", air.ofFlight(1, 0), 4);
        Check.same("it gets charge behind that", air.ofCraft(0, 3), 3);
        passTo(air, 51);
        Check.same("flies again", air.ofFlight(2, 0), 1);
        startWithTwo();
    }

    /** One that is broken comes home with 1 or 2 of charge, a minute ahead of the start of its next flight. */
    private static void startWithTwo() {
        for (int left = 1; left <= 2; left++) {
            LowAir air = withCorners();
            air.craft(0, 0, 26 + left, 0);
            ask(air, 0, 1, 0, 1, 2, 3, 4);
            ask(air, 0, 14, 0, 1, 0);
            passTo(air, 7);
            air.link(0, false);
            passTo(air, 13);
            air.link(0, true);
            Check.same("landed at home", air.ofCraft(0, 6), 0);
            Check.same("what is left", air.ofCraft(0, 3), left);
            air.pass(1);
            Check.same("state of the next flight with " + left, air.ofFlight(1, 0), left == 2 ? 1 : 4);
            Check.same("charge behind that", air.ofCraft(0, 3), left == 2 ? 0 : 4);
        }
    }

    private static void promise14Moves() {
        Check.part("promise 14, moves");
        LowAir air = withCorners();
        air.craft(0, 0, 100, 0);
        ask(air, 0, 1, 0, 1, 2, 3, 4);
        int[] cells = {0, 0, 1, 1, 2, 2, 3, 3, 4, 4};
        int[] charges = {98, 98, 94, 94, 90, 90, 86, 86, 82, 85};
        for (int i = 0; i < cells.length; i++) {
            Check.same("pass(1) to minute " + (i + 1), air.pass(1), i == 8 ? 1 : 0);
            Check.same("cell at " + (i + 1), air.ofCraft(0, 7), cells[i]);
            Check.same("charge at " + (i + 1), air.ofCraft(0, 3), charges[i]);
            Check.same("flies at " + (i + 1), air.ofCraft(0, 6), i < 8 ? 1 : 0);
            Check.same("flight at " + (i + 1), air.ofCraft(0, 8), i < 8 ? 0 : NONE);
            Check.same("state at " + (i + 1), air.ofFlight(0, 0), i < 8 ? 1 : 2);
        }
        // Its last cell is on the way too: it lands there only at its end.
        ask(air, 0, 20, 4, 3, 4, 9, 4);
        passTo(air, 24);
        Check.same("flies over its last cell", air.ofCraft(0, 6), 1);
        passTo(air, 27);
        Check.same("not yet", air.ofFlight(1, 0), 1);
        passTo(air, 28);
        Check.same("lands", air.ofFlight(1, 0), 2);
        Check.same("a pad of another craft's home", air.ofCraft(0, 7), 4);
        Check.same("its home stays", air.ofCraft(0, 1), 0);
        // A zone that is told later, and a tower, stop nobody.
        ask(air, 0, 40, 4, 3, 2, 1, 0);
        air.zone(2, 0, 0, 4);
        air.tower(3, true);
        passTo(air, 48);
        Check.same("done", air.ofFlight(2, 0), 2);
        Check.same("a breach", air.ofCraft(0, 9), 1);
    }

    private static void promise14Broken() {
        Check.part("promise 14, broken");
        LowAir air = withCorners();
        air.craft(0, 0, 100, 0);
        air.craft(3, 0, 100, 0);
        ask(air, 0, 1, 0, 1, 2, 7, 8, 9, 4);
        passTo(air, 7);
        Check.same("in 7", air.ofCraft(0, 7), 7);
        air.link(0, false);
        air.pass(1);
        Check.same("not as it does not move", air.ofFlight(0, 0), 1);
        air.link(0, true);
        air.pass(1);
        Check.same("with its link again in time", air.ofCraft(0, 7), 8);
        air.link(0, false);
        // Into another row first, then into another column; towers and zones do not matter.
        air.tower(3, true);
        air.zone(2, 0, 0, 4);
        air.pass(2);
        Check.same("broken", air.ofFlight(0, 0), 5);
        Check.same("to its row", air.ofCraft(0, 7), 3);
        Check.same("with this flight", air.ofCraft(0, 8), 0);
        air.link(0, true);
        air.pass(2);
        Check.same("to its column", air.ofCraft(0, 7), 2);
        Check.same("a breach", air.ofCraft(0, 9), 1);
        Check.same("broken, with its link again", air.ofFlight(0, 0), 5);
        air.pass(1);
        Check.same("not in between", air.ofCraft(0, 7), 2);
        Check.same("none is done as it lands", air.pass(3), 0);
        Check.same("at home", air.ofCraft(0, 7), 0);
        Check.same("lies", air.ofCraft(0, 6), 0);
        Check.same("no flight", air.ofCraft(0, 8), NONE);
        Check.same("broken behind its landing", air.ofFlight(0, 0), 5);
        Check.same("a start and 8 moves", air.ofCraft(0, 3), 100 - 2 - 32);
        air.pass(1);
        Check.same("it gets charge", air.ofCraft(0, 3), 69);
        // From a pad that is not its home, southwards and eastwards.
        ask(air, 1, 30, 24, 23, 22, 21, 20);
        passTo(air, 40);
        ask(air, 1, 41, 20, 15, 10, 5, 0);
        passTo(air, 45);
        air.link(1, false);
        int[] cells = {10, 10, 15, 15, 20, 20, 21, 21, 22, 22, 23, 23, 24};
        for (int i = 0; i < cells.length; i++) {
            Check.same("cell at " + air.many(0), air.ofCraft(1, 7), cells[i]);
            air.pass(1);
        }
        Check.same("lies", air.ofCraft(1, 6), 0);
        brokenAtHome();
    }

    private static void brokenAtHome() {
        LowAir air = withCorners();
        air.craft(0, 0, 100, 9);
        air.houses(0, 9);
        ask(air, 0, 1, 0, 1, 0);
        air.houses(0, 1);
        Check.same("asked", air.many(4), 0);
        draft(air, 0, 1, 0);
        Check.same("asked with fewer houses", air.ask(0, 1), 0);
        air.pass(2);
        air.link(0, false);
        air.pass(1);
        Check.same("broken at home", air.ofFlight(0, 0), 5);
        Check.same("it lies", air.ofCraft(0, 6), 0);
        Check.same("without a move", air.ofCraft(0, 3), 98);
        Check.same("and without noise", air.ofCell(0, 3), 9);
        air.pass(1);
        Check.same("it gets charge in the next minute", air.ofCraft(0, 3), 100);
    }

    private static void promise14Lost() {
        Check.part("promise 14, lost");
        LowAir air = withCorners();
        air.craft(0, 0, 10, 3);
        air.houses(1, 2);
        ask(air, 0, 1, 0, 1, 0);
        air.pass(2);
        air.wind(3, 3);
        air.pass(1);
        Check.same("a charge of 1 is left", air.ofCraft(0, 3), 1);
        air.pass(2);
        Check.same("a move that costs all of it", air.ofFlight(0, 0), 2);
        Check.same("no charge", air.ofCraft(0, 3), 0);
        Check.same("it lies", air.ofCraft(0, 6), 0);
        LowAir down = withCorners();
        down.craft(0, 0, 10, 3);
        down.houses(0, 2);
        ask(down, 0, 1, 0, 1, 0);
        down.pass(3);
        down.wind(1, 1);
        Check.same("a charge of 4 is left", down.ofCraft(0, 3), 4);
        down.pass(2);
        Check.same("a move for 5", down.ofFlight(0, 0), 6);
        Check.same("down", down.ofCraft(0, 6), 2);
        Check.same("where it is", down.ofCraft(0, 7), 1);
        Check.same("with no charge", down.ofCraft(0, 3), 0);
        Check.same("with no flight", down.ofCraft(0, 8), NONE);
        Check.same("no noise by it", down.ofCell(0, 3), 6);
        Check.same("does not fly there", down.ofCell(1, 5), 0);
        down.pass(10);
        Check.same("gets no charge", down.ofCraft(0, 3), 0);
        LowAir broken = withCorners();
        broken.craft(0, 0, 18, 0);
        ask(broken, 0, 1, 0, 1, 2, 1, 0);
        broken.pass(5);
        broken.link(0, false);
        broken.wind(1, 3);
        broken.pass(2);
        Check.same("broken, it moves for 7", broken.ofFlight(0, 0), 5);
        Check.same("1 is left", broken.ofCraft(0, 3), 1);
        broken.pass(2);
        Check.same("lost on its way home", broken.ofFlight(0, 0), 6);
        Check.same("down", broken.ofCraft(0, 6), 2);
        Check.same("many(12)", broken.many(12), 1);
    }

    private static void promise14NearAndCharge() {
        Check.part("promise 14, near and charge");
        LowAir air = withCorners();
        air.craft(0, 0, 100, 0);
        ask(air, 0, 1, 0, 1, 0);
        passTo(air, 5);
        Check.same("no charge as it lands", air.ofCraft(0, 3), 90);
        air.pass(1);
        Check.same("charge of a minute", air.ofCraft(0, 3), 93);
        air.pass(2);
        Check.same("charge of three", air.ofCraft(0, 3), 99);
        air.pass(1);
        Check.same("its battery at most", air.ofCraft(0, 3), 100);
        air.pass(10);
        Check.same("its battery at most", air.ofCraft(0, 3), 100);
        nearOnTheWayHome();
        nearOfTwo();
        nearOfThree();
    }

    private static void nearOnTheWayHome() {
        LowAir air = withCorners();
        air.craft(0, 0, 100, 0);
        air.craft(0, 0, 100, 0);
        ask(air, 0, 1, 0, 1, 2, 3, 4);
        passTo(air, 5);
        air.link(0, false);
        passTo(air, 7);
        Check.same("craft 0 is back in 1", air.ofCraft(0, 7), 1);
        // Broken, it keeps nobody out: craft 1 starts from 0 at 8, when craft 0 flies in 1.
        ask(air, 1, 8, 0, 1, 0);
        air.pass(1);
        Check.same("not in one cell", air.many(13), 0);
        air.pass(1);
        Check.same("craft 0 has landed where craft 1 flies", air.many(13), 0);
        Check.same("they were in one cell", air.ofCraft(0, 7), air.ofCraft(1, 7));
    }

    /** One that is broken goes home by the pad where the other one starts, and stays there for two minutes. */
    private static void nearOfTwo() {
        LowAir air = new LowAir();
        air.pad(0);
        air.pad(1);
        air.pad(2);
        for (int pad : new int[] {0, 1, 1, 2}) {
            air.craft(pad, 0, 100, 0);
        }
        ask(air, 0, 1, 0, 5, 6, 7, 2);
        passTo(air, 7);
        air.link(0, false);
        passTo(air, 9);
        Check.same("craft 0 goes home by 2, where one lies", air.ofCraft(0, 7), 2);
        Check.same("craft 1", ask(air, 1, 11, 1, 6, 1), 1);
        passTo(air, 10);
        Check.same("one that lies is not near", air.many(13), 0);
        passTo(air, 11);
        Check.same("near as one starts", air.many(13), 1);
        Check.same("two fly there", air.ofCell(1, 5), 2);
        Check.same("none flies there any more", air.ofCell(2, 5), 0);
        passTo(air, 12);
        Check.same("near in each minute", air.many(13), 2);
        passTo(air, 13);
        Check.same("not near any more", air.many(13), 2);
    }

    /** Two that are broken go home by the pad where the third one starts: three pairs of craft are near. */
    private static void nearOfThree() {
        LowAir air = new LowAir();
        for (int cell : new int[] {0, 1, 2, 10}) {
            air.pad(cell);
        }
        for (int pad : new int[] {0, 1, 0}) {
            air.craft(pad, 0, 100, 0);
        }
        ask(air, 2, 1, 0, 5, 10);
        passTo(air, 10);
        Check.same("craft 0", ask(air, 0, 21, 0, 5, 6, 7, 2), 1);
        Check.same("craft 2", ask(air, 2, 21, 10, 11, 12, 11, 10), 2);
        passTo(air, 27);
        air.link(0, false);
        air.link(2, false);
        passTo(air, 29);
        Check.same("craft 1", ask(air, 1, 31, 1, 6, 1), 3);
        Check.same("wouldNear(2)", air.wouldNear(2), 3);
        passTo(air, 31);
        Check.same("three fly there", air.ofCell(1, 5), 3);
        Check.same("three pairs", air.many(13), 3);
        passTo(air, 33);
        Check.same("for two minutes", air.many(13), 6);
    }

    private static void promise14NoiseAndBreaches() {
        Check.part("promise 14, noise and breaches");
        LowAir air = withCorners();
        air.craft(0, 1, 100, 3);
        air.houses(0, 2);
        air.houses(1, 4);
        air.houses(2, 1);
        ask(air, 0, 1438, 0, 1, 2, 1, 0);
        passTo(air, 1437);
        air.zone(0, 23, 0, 2);
        air.zone(0, 23, 23, 2);
        air.zone(1, 23, 0, 2);
        air.zone(2, 0, 0, 1);
        Check.same("nothing heard", air.ofCell(0, 3), 0);
        air.pass(1);
        Check.same("heard as it starts", air.ofCell(0, 3), 6);
        Check.same("one breach, though of two zones", air.ofCraft(0, 9), 1);
        air.pass(1);
        Check.same("heard once", air.many(15), 6);
        air.pass(1);
        Check.same("heard as it comes in, on the next day", air.ofCell(1, 3), 12);
        Check.same("nothing of the day before", air.ofCell(0, 3), 0);
        Check.same("ever", air.many(15), 18);
        Check.same("the zone of 1 is open by now", air.ofCraft(0, 9), 1);
        air.pass(2);
        Check.same("its class is not below the least", air.ofCraft(0, 9), 1);
        Check.same("heard in 2", air.ofCell(2, 3), 3);
        air.houses(1, 5);
        air.pass(2);
        Check.same("by the houses of then", air.ofCell(1, 3), 27);
        air.pass(2);
        Check.same("heard as it lands", air.ofCell(0, 3), 6);
        Check.same("a breach of the second zone", air.ofCraft(0, 9), 2);
        Check.same("all breaches", air.many(14), 2);
        Check.same("all noise", air.many(15), 6 + 12 + 3 + 15 + 6);
        passTo(air, 2879);
        Check.same("heard on its day", air.ofCell(1, 3), 27);
        passTo(air, 2880);
        Check.same("a day later", air.ofCell(1, 3), 0);
    }

    // ---- what one asks

    private static void promise15OfCell() {
        Check.part("promise 15, ofCell");
        LowAir air = withCorners();
        air.craft(0, 0, 100, 2);
        air.craft(0, 0, 100, 1);
        air.houses(1, 3);
        air.tower(13, true);
        ask(air, 0, 1, 0, 1, 2, 1, 0);
        ask(air, 1, 1440, 0, 1, 0);
        air.pass(3);
        int[] due = {3, 0, NONE, 6, 12, 1};
        for (int what = 0; what <= 5; what++) {
            Check.same("ofCell(1, " + what + ")", air.ofCell(1, what), due[what]);
        }
        Check.same("ofCell(13, 1)", air.ofCell(13, 1), 1);
        Check.same("ofCell(20, 2)", air.ofCell(20, 2), 2);
        Check.same("those that lie do not count", air.ofCell(0, 5), 0);
        refusedCells("ofCell", air, cell -> () -> air.ofCell(cell, 0));
        refusedCells("ofCell, both wrong,", air, cell -> () -> air.ofCell(cell, 6));
        for (int what : new int[] {-1, 6, LOW, HIGH}) {
            Check.refused("ofCell of what " + what, Check.ARGUMENT, () -> air.ofCell(1, what));
        }
        passTo(air, 1439);
        Check.same("planned on its day", air.ofCell(1, 4), 12);
        passTo(air, 1440);
        Check.same("planned on the next day", air.ofCell(1, 4), 3);
    }

    private static void promise16OfCraft() {
        Check.part("promise 16, ofCraft");
        LowAir air = withCorners();
        Check.refused("ofCraft without craft", Check.OUT, () -> air.ofCraft(0, 0));
        air.craft(1, 2, 60, 5);
        air.zone(3, 0, 0, 3);
        ask(air, 0, 1, 4, 9, 4);
        air.zone(9, 0, 0, 3);
        air.link(0, false);
        air.link(0, true);
        air.pass(3);
        air.link(0, false);
        int[] due = {2, 1, 60, 54, 5, 0, 1, 9, 0, 1};
        for (int what = 0; what <= 9; what++) {
            Check.same("ofCraft(0, " + what + ")", air.ofCraft(0, what), due[what]);
        }
        for (int craft : new int[] {-1, 1, LOW, HIGH}) {
            Check.refused("ofCraft of " + craft, Check.OUT, () -> air.ofCraft(craft, 0));
            Check.refused("ofCraft, both wrong, of " + craft, Check.OUT, () -> air.ofCraft(craft, 10));
        }
        for (int what : new int[] {-1, 10, LOW, HIGH}) {
            Check.refused("ofCraft of what " + what, Check.ARGUMENT, () -> air.ofCraft(0, what));
        }
    }

    private static void promise17OfFlight() {
        Check.part("promise 17, ofFlight");
        LowAir air = withCorners();
        Check.refused("ofFlight without flights", Check.OUT, () -> air.ofFlight(0, 0));
        air.craft(0, 0, 100, 0);
        air.craft(1, 0, 100, 0);
        ask(air, 0, 5, 0, 1, 0);
        ask(air, 1, 7, 4, 3, 8, 9, 4);
        int[] due = {0, 1, 7, 15, 5};
        for (int what = 0; what <= 4; what++) {
            Check.same("ofFlight(1, " + what + ")", air.ofFlight(1, what), due[what]);
        }
        for (int flight : new int[] {-1, 2, LOW, HIGH}) {
            Check.refused("ofFlight of " + flight, Check.OUT, () -> air.ofFlight(flight, 0));
            Check.refused("ofFlight, both wrong, of " + flight, Check.OUT, () -> air.ofFlight(flight, 5));
        }
        for (int what : new int[] {-1, 5, LOW, HIGH}) {
            Check.refused("ofFlight of what " + what, Check.ARGUMENT, () -> air.ofFlight(0, what));
        }
    }

    private static void promise18Occupies() {
        Check.part("promise 18, occupies");
        LowAir air = withCorners();
        air.craft(0, 0, 100, 0);
        air.craft(0, 0, 100, 0);
        ask(air, 0, 10, 0, 1, 2, 1, 0);
        ask(air, 1, 13, 0, 1, 0);
        for (int minute = 0; minute <= 30; minute++) {
            boolean first = minute >= 9 && minute <= 11 || minute >= 17 && minute <= 19;
            boolean second = minute >= 11 && minute <= 13 || minute >= 15 && minute <= 17;
            Check.same("occupies(0, " + minute + ")", air.occupies(0, minute), first ? 0 : NONE);
            Check.same("occupies(1, " + minute + ")", air.occupies(1, minute), second ? 0 : NONE);
        }
        Check.same("far away", air.occupies(0, HIGH), NONE);
        refusedCells("occupies", air, cell -> () -> air.occupies(cell, 0));
        refusedCells("occupies, both wrong,", air, cell -> () -> air.occupies(cell, -1));
        Check.refused("occupies of -1", Check.ARGUMENT, () -> air.occupies(0, -1));
        Check.refused("occupies of the least", Check.ARGUMENT, () -> air.occupies(0, LOW));
        passTo(air, 12);
        Check.same("flying", air.occupies(2, 14), 0);
        passTo(air, 18);
        Check.same("done", air.occupies(0, 18), NONE);
        ask(air, 1, 40, 0, 1, 0);
        int late = air.many(4) - 1;
        Check.same("approved", air.occupies(1, 42), late);
        air.withdraw(late);
        Check.same("withdrawn", air.occupies(1, 42), NONE);
    }

    private static void promise19Many() {
        Check.part("promise 19, many");
        LowAir air = withCorners();
        air.craft(0, 0, 100, 2);
        air.craft(1, 0, 100, 0);
        air.zone(20, 0, 0, 1);
        air.houses(0, 2);
        ask(air, 0, 1, 0, 1, 0);
        ask(air, 0, 20, 4, 3, 4);
        ask(air, 0, 40, 0, 5, 10, 5, 0);
        ask(air, 0, 100, 0, 1, 0);
        ask(air, 0, 200, 0, 1, 0);
        ask(air, 1, 60, 4, 3, 4);
        air.withdraw(4);
        draft(air, 7, 8, 9);
        passTo(air, 42);
        air.zone(10, 0, 0, 4);
        int[] flying = {42, 4, 2, 2, 6, 3, 2, 1, 1, 1, 1, 0, 0, 0, 0, 12};
        for (int what = 0; what <= 15; what++) {
            Check.same("many(" + what + ") at 42", air.many(what), flying[what]);
        }
        air.pass(2);
        air.link(0, false);
        passTo(air, 70);
        int[] broken = {70, 4, 2, 2, 6, 3, 1, 0, 2, 1, 1, 1, 0, 0, 1, 16};
        for (int what = 0; what <= 15; what++) {
            Check.same("many(" + what + ") at 70", air.many(what), broken[what]);
        }
        for (int what : new int[] {-1, 16, LOW, HIGH}) {
            Check.refused("many(" + what + ")", Check.ARGUMENT, () -> air.many(what));
        }
    }

    private static void promise20MeanCharge() {
        Check.part("promise 20, meanCharge");
        LowAir air = withCorners();
        Check.sameDouble("without craft", air.meanCharge(), 0);
        air.craft(0, 0, 30, 0);
        Check.sameDouble("a full one", air.meanCharge(), 1);
        air.craft(1, 0, 70, 0);
        air.craft(3, 0, 190, 0);
        ask(air, 0, 1, 0, 1, 0);
        ask(air, 1, 1, 4, 9, 14, 19, 24);
        ask(air, 2, 1, 24, 23, 22, 21, 20);
        air.pass(5);
        double sum = 0;
        sum += 20.0 / 30.0;
        sum += 60.0 / 70.0;
        sum += 180.0 / 190.0;
        Check.sameDouble("the mean of three", air.meanCharge(), sum / 3.0);
    }

    // ---- what would be

    private static void promise21Why() {
        Check.part("promise 21, why");
        LowAir air = withCorners();
        Check.refused("why without craft", Check.OUT, () -> air.why(0, 0));
        air.craft(0, 0, 100, 0);
        air.pass(10);
        Check.refused("why without a draft", Check.STATE, () -> air.why(0, 11));
        Check.refused("why without a draft, start wrong", Check.ARGUMENT, () -> air.why(0, 10));
        Check.refused("why without a draft, all wrong", Check.OUT, () -> air.why(1, 10));
        draft(air, 0, 1, 0);
        for (int start : new int[] {10, 0, -1, 2011, LOW, HIGH}) {
            Check.refused("why for start " + start, Check.ARGUMENT, () -> air.why(0, start));
        }
        for (int craft : new int[] {-1, 1, LOW, HIGH}) {
            Check.refused("why of craft " + craft, Check.OUT, () -> air.why(craft, 11));
        }
        long before = air.digest();
        Check.same("why at the first start", air.why(0, 11), 0);
        Check.same("why at the last start", air.why(0, 2010), 0);
        air.tower(1, true);
        Check.same("why with a tower", air.why(0, 11), 1);
        air.tower(1, false);
        unchanged(air, before);
        Check.same("the draft is kept", air.many(5), 3);
        for (int i = 0; i < 12; i++) {
            ask(air, 0, 100 + 10 * i, 0, 1, 0);
        }
        draft(air, 0, 1, 0);
        Check.same("many(4)", air.many(4), 12);
        Check.same("why behind 12 flights", air.why(0, 50), 0);
        Check.same("why behind 12 flights, with a reason", air.why(0, 100), 4);
    }

    private static void promise22Soonest() {
        Check.part("promise 22, soonest");
        LowAir air = withCorners();
        Check.refused("soonest without craft", Check.OUT, () -> air.soonest(0));
        air.craft(0, 0, 100, 0);
        air.craft(1, 1, 100, 0);
        Check.refused("soonest without a draft", Check.STATE, () -> air.soonest(0));
        Check.refused("soonest of none without a draft", Check.OUT, () -> air.soonest(2));
        Check.refused("soonest of -1", Check.OUT, () -> air.soonest(-1));
        draft(air, 0, 1, 0);
        Check.same("at once", air.soonest(0), 1);
        air.zone(1, 0, 3, 1);
        // In 1 from its start + 1 on: not ahead of minute 180.
        Check.same("behind a zone", air.soonest(0), 179);
        Check.same("of a class that may", air.soonest(1), 1);
        air.zone(0, 0, 4, 1);
        Check.same("not within 200", air.soonest(0), NONE);
        passTo(air, 40);
        Check.same("not within 200", air.soonest(0), NONE);
        passTo(air, 41);
        Check.same("just within 200", air.soonest(0), 241);
        passTo(air, 300);
        Check.same("behind it", air.soonest(0), 301);
        long before = air.digest();
        air.soonest(1);
        unchanged(air, before);
        Check.same("the draft is kept", air.many(5), 3);
        air.tower(1, true);
        Check.same("never", air.soonest(0), NONE);
    }

    private static void promise23Way() {
        Check.part("promise 23, way");
        LowAir air = withCorners();
        Check.refused("way without craft", Check.OUT, () -> air.way(0, 0));
        air.craft(0, 1, 100, 0);
        for (int craft : new int[] {-1, 1, LOW, HIGH}) {
            Check.refused("way of craft " + craft, Check.OUT, () -> air.way(craft, 0));
        }
        refusedCells("way", air, cell -> () -> air.way(0, cell));
        for (int cell = 0; cell < 25; cell++) {
            Check.same("way(0, " + cell + ")", air.way(0, cell), cell / 5 + cell % 5);
        }
        // A long way round: the walls stand in the columns 1 and 3.
        for (int cell : new int[] {1, 6, 11, 16, 8, 13, 18, 23}) {
            air.tower(cell, true);
        }
        Check.same("round the towers", air.way(0, 2), 10);
        Check.same("round the towers to the last corner", air.way(0, 24), 16);
        Check.same("to a tower", air.way(0, 6), NONE);
        Check.same("to its own cell", air.way(0, 0), 0);
        air.zone(3, 0, 1, 2);
        Check.same("shut at NOW", air.way(0, 24), NONE);
        Check.same("to a cell that is shut", air.way(0, 3), NONE);
        Check.same("up to it", air.way(0, 2), 10);
        air.pass(60);
        Check.same("open by now", air.way(0, 24), 16);
        air.zone(0, 0, 0, 4);
        Check.same("its own cell is not looked at", air.way(0, 5), 1);
        Check.same("its own cell is not looked at", air.way(0, 0), 0);
        LowAir flying = withCorners();
        flying.craft(0, 0, 100, 0);
        ask(flying, 0, 1, 0, 1, 2, 1, 0);
        flying.tower(2, true);
        flying.pass(5);
        Check.same("from where it flies, over a tower", flying.way(0, 3), 1);
        Check.same("to where it flies", flying.way(0, 2), 0);
        Check.same("from there home", flying.way(0, 0), 2);
    }

    private static void promise24Cost() {
        Check.part("promise 24, cost");
        LowAir air = withCorners();
        Check.refused("cost without craft", Check.OUT, () -> air.cost(0, 0));
        air.craft(0, 1, 10, 0);
        for (int craft : new int[] {-1, 1, LOW, HIGH}) {
            Check.refused("cost of craft " + craft, Check.OUT, () -> air.cost(craft, 0));
        }
        refusedCells("cost", air, cell -> () -> air.cost(0, cell));
        for (int cell = 0; cell < 25; cell++) {
            Check.same("cost(0, " + cell + ")", air.cost(0, cell), 4 * (cell / 5 + cell % 5));
        }
        air.wind(1, 3);
        Check.same("with the wind", air.cost(0, 4), 4);
        Check.same("with and across the wind", air.cost(0, 24), 20);
        air.wind(3, 3);
        Check.same("against the wind", air.cost(0, 4), 28);
        air.wind(0, 2);
        Check.same("against the wind southwards", air.cost(0, 20), 24);
        // The way with the fewest moves is not the cheapest one: a hole in the wall is against the wind.
        air.tower(1, true);
        air.wind(2, 3);
        Check.same("down, and up again", air.cost(0, 2), 1 + 4 + 4 + 7);
        air.zone(6, 0, 1, 2);
        Check.same("one more down and up", air.cost(0, 2), 2 + 8 + 14);
        air.tower(5, true);
        Check.same("no way", air.cost(0, 2), NONE);
        Check.same("to a tower", air.cost(0, 5), NONE);
        Check.same("to its own cell", air.cost(0, 0), 0);
        cheaperRoundabout();
    }

    /** From 10 to 14 by a wind to the east: 9 and 19 are ahead of 14, and one of the ways is shorter but dearer. */
    private static void cheaperRoundabout() {
        LowAir air = new LowAir();
        air.pad(14);
        air.craft(0, 0, 100, 0);
        air.wind(1, 3);
        // 14 to 12 straight on: 7 + 7. Any other way has the same two moves to the west and more.
        Check.same("straight on", air.cost(0, 12), 14);
        air.tower(13, true);
        Check.same("round a tower", air.cost(0, 12), 4 + 7 + 7 + 4);
        Check.same("its moves", air.way(0, 12), 4);
    }

    private static void promise25WouldNear() {
        Check.part("promise 25, wouldNear");
        LowAir air = withCorners();
        for (int minutes : new int[] {0, -1, 101, LOW, HIGH}) {
            Check.refused("wouldNear(" + minutes + ")", Check.ARGUMENT, () -> air.wouldNear(minutes));
        }
        Check.same("without craft", air.wouldNear(1), 0);
        Check.same("without craft, of 100", air.wouldNear(100), 0);
        passTo(air, 5000);
        Check.same("above 5000", air.wouldNear(100), 0);
        LowAir near = new LowAir();
        near.pad(0);
        near.pad(1);
        near.pad(2);
        near.craft(0, 0, 100, 1);
        near.craft(1, 0, 100, 1);
        near.houses(1, 1);
        ask(near, 0, 1, 0, 5, 6, 7, 2);
        passTo(near, 7);
        near.link(0, false);
        passTo(near, 9);
        ask(near, 1, 11, 1, 6, 1);
        long before = near.digest();
        Check.same("wouldNear(1)", near.wouldNear(1), 0);
        Check.same("wouldNear(2)", near.wouldNear(2), 1);
        Check.same("wouldNear(3)", near.wouldNear(3), 2);
        Check.same("wouldNear(100)", near.wouldNear(100), 2);
        unchanged(near, before);
        Check.same("nothing is changed", near.many(13), 0);
        near.pass(2);
        Check.same("it was so", near.many(13), 1);
        Check.same("only what is to come", near.wouldNear(100), 1);
    }

    private static void promise26WouldHave() {
        Check.part("promise 26, wouldHave");
        LowAir air = withCorners();
        Check.refused("wouldHave without craft", Check.OUT, () -> air.wouldHave(0, 1));
        air.craft(0, 0, 18, 0);
        for (int craft : new int[] {-1, 1, LOW, HIGH}) {
            Check.refused("wouldHave of " + craft, Check.OUT, () -> air.wouldHave(craft, 1));
            Check.refused("wouldHave, both wrong, of " + craft, Check.OUT, () -> air.wouldHave(craft, 0));
        }
        for (int minutes : new int[] {0, -1, 101, LOW, HIGH}) {
            Check.refused("wouldHave in " + minutes, Check.ARGUMENT, () -> air.wouldHave(0, minutes));
        }
        ask(air, 0, 2, 0, 1, 2, 3, 4);
        long before = air.digest();
        int[] due = {18, 16, 16, 12, 12, 8, 8, 4, 4, 0, 3, 6};
        for (int i = 0; i < due.length; i++) {
            Check.same("wouldHave(0, " + (i + 1) + ")", air.wouldHave(0, i + 1), due[i]);
        }
        Check.same("wouldHave(0, 100)", air.wouldHave(0, 100), 18);
        unchanged(air, before);
        air.wind(3, 3);
        Check.same("before it is down", air.wouldHave(0, 7), 2);
        Check.same("down", air.wouldHave(0, 8), NONE);
        Check.same("down for long", air.wouldHave(0, 100), NONE);
        air.pass(8);
        Check.same("it is down", air.wouldHave(0, 1), NONE);
        air.fetch(0);
        Check.same("it is fetched", air.wouldHave(0, 4), 12);
        passTo(air, 4999);
        Check.same("above 5000", air.wouldHave(0, 100), 18);
        Check.same("asked near the end", ask(air, 0, 5050, 0, 1, 0), 1);
        Check.same("flying above 5000", air.wouldHave(0, 51), 16);
        Check.same("done above 5000", air.wouldHave(0, 55), 8);
        Check.same("NOW", air.many(0), 4999);
        wouldGoHome();
    }

    private static void wouldGoHome() {
        LowAir air = withCorners();
        air.craft(0, 0, 50, 0);
        air.craft(1, 0, 200, 0);
        ask(air, 0, 1, 0, 1, 2, 3, 4);
        air.pass(4);
        Check.same("with its link, it lands on 4 at minute 9", air.wouldHave(0, 6), 50 - 18 + 3);
        air.link(0, false);
        Check.same("without, it is back at 0 at minute 5 + 2", air.wouldHave(0, 1), 44 - 4);
        Check.same("it lies from minute 5 on", air.wouldHave(0, 2), 43);
        Check.same("the other one is as it is", air.wouldHave(1, 100), 200);
        Check.same("nothing is broken yet", air.ofFlight(0, 0), 1);
    }

    private static void promise27Digest() {
        Check.part("promise 27, digest");
        for (int minute = 0; minute < 30; minute++) {
            LowAir air = withTwoAt(minute);
            Check.same("without a draft", air.digest(), digestOf(air, false));
            LowAir way = withTwoAt(minute);
            draft(way, 0, 1, 0);
            Check.same("with a draft", way.digest(), digestOf(way, true));
            LowAir wrong = withTwoAt(minute);
            draft(wrong, 0, 1);
            Check.same("with a wrong draft", wrong.digest(), digestOf(wrong, false));
        }
        digestOfNear();
        digestOfAll();
    }

    private static LowAir withTwoAt(int minute) {
        LowAir air = withCorners();
        air.craft(0, 0, 60, 3);
        air.craft(1, 2, 60, 1);
        air.houses(1, 4);
        air.houses(12, 2);
        air.tower(18, true);
        air.zone(12, 0, 2, 1);
        air.wind(2, 1);
        ask(air, 0, 2, 0, 1, 2, 3, 4);
        ask(air, 1, 20, 4, 9, 4);
        passTo(air, minute);
        air.clear();
        return air;
    }

    /** Two are going to be near for two minutes: wouldNear() of 11, 12 and 13 differ for a while. */
    private static void digestOfNear() {
        boolean differs = false;
        for (int minute = 15; minute < 35; minute++) {
            LowAir air = withTwoNearAt27(minute);
            differs |= air.wouldNear(11) != air.wouldNear(12) && air.wouldNear(12) != air.wouldNear(13);
            Check.same("digest at " + minute, air.digest(), digestOf(air, false));
        }
        Check.same("they differ", differs, true);
        Check.same("near for two minutes", withTwoNearAt27(35).many(13), 2);
    }

    /** As many of everything as there may be. */
    private static void digestOfAll() {
        for (int minute = 0; minute < 60; minute += 3) {
            LowAir air = withAllAt(minute);
            draft(air, 20, 15, 10, 5, 0, 1, 2, 3, 4, 9);
            Check.same("digest at " + minute, air.digest(), digestOf(air, false));
        }
        LowAir done = withAllAt(60);
        draft(done, 20, 15, 10, 5, 0, 1, 2, 3, 4);
        Check.same("all are done", done.many(8), 12);
        Check.same("digest", done.digest(), digestOf(done, true));
    }

    private static LowAir withAllAt(int minute) {
        LowAir air = withCorners();
        air.pad(12);
        int[] shut = {6, 7, 8, 11, 16, 18};
        for (int i = 0; i < 6; i++) {
            air.craft(i % 5, i % 4, 200, i);
            air.zone(shut[i], 3 * i, 2 * i, 1 + i % 2);
            air.houses(4 * i, i);
        }
        int[][] rows = {{0, 5, 0}, {4, 9, 4}, {20, 15, 20}, {24, 19, 24}, {12, 13, 12}};
        for (int i = 0; i < 12; i++) {
            Check.same("flight " + i, ask(air, i % 5, 10 + 20 * (i / 5), rows[i % 5]), i);
        }
        passTo(air, minute);
        return air;
    }

    private static long digestOf(LowAir air, boolean isWay) {
        long d = 4813;
        for (int what = 0; what < 16; what++) {
            d = d * 31 + air.many(what);
        }
        int now = air.many(0);
        for (int cell = 0; cell < 25; cell++) {
            for (int what = 0; what < 6; what++) {
                d = d * 31 + air.ofCell(cell, what);
            }
            d = d * 31 + air.occupies(cell, now + 3);
        }
        int crafts = air.many(3);
        for (int craft = 0; craft < crafts; craft++) {
            for (int what = 0; what < 10; what++) {
                d = d * 31 + air.ofCraft(craft, what);
            }
            d = (d * 31 + air.way(craft, 12)) * 31 + air.cost(craft, 12);
            d = d * 31 + air.wouldHave(craft, 10);
        }
        int flights = air.many(4);
        for (int flight = 0; flight < flights; flight++) {
            for (int what = 0; what < 5; what++) {
                d = d * 31 + air.ofFlight(flight, what);
            }
        }
        d = d * 31 + air.wouldNear(12);
        for (int craft = 0; isWay && craft < crafts; craft++) {
            d = d * 31 + air.soonest(craft);
        }
        return d;
    }
}
