/** What stands before the promises of connections, cleaning, still water and fingerprints. */
final class WaysTermsEdges {
    private WaysTermsEdges() {
    }

    /** The same answer of the two ways to find it. */
    private static void both(String what, int want, int one, int other) {
        Check.due(what, want, one);
        Check.due(what + ", the other way", want, other);
    }

    // ---- connections ----

    private static final String CONNECTED = "Two tanks are connected if they are the same or if one can be reached from"
            + " the other one through open pipes, in whatever direction.";

    @Sentence(CONNECTED)
    static void termsATankIsConnectedWithItself() {
        FilterWaterworks works = Edges.tanks(8);
        for (int tank = 0; tank < 8; tank++) {
            Check.due("tank " + tank, true, works.areConnected(tank, tank));
            Check.due("no other one", tank == 7, works.areConnected(tank, 7));
        }
    }

    @Sentence(CONNECTED)
    static void termsConnectedInWhateverDirection() {
        FilterWaterworks works = Edges.tanks(8);
        for (int pipe = 0; pipe < 7; pipe++) {
            works.addPipe(pipe % 2 == 0 ? pipe : pipe + 1, pipe % 2 == 0 ? pipe + 1 : pipe, 255);
            works.setValve(pipe, 1 + pipe % 4);
        }
        Check.due("forth", true, works.areConnected(0, 7));
        Check.due("back", true, works.areConnected(7, 0));
        works.setValve(3, 0);
        Check.due("closed between", false, works.areConnected(0, 7));
        Check.due("closed between, back", false, works.areConnected(7, 0));
        Check.due("before it", true, works.areConnected(0, 3));
        Check.due("behind it", true, works.areConnected(7, 4));
    }

    @Sentence(CONNECTED)
    static void termsConnectedUntilClogged() {
        Check.due("dirt 19", true, Edges.dirty(19).areConnected(1, 0));
        Check.due("dirt 20", false, Edges.dirty(20).areConnected(1, 0));
    }

    private static final String GROUP = "A group is a set of all tanks that are connected with each other.";

    @Sentence(GROUP)
    static void termsGroupsOfNoneToEightTanks() {
        for (int tanks = 0; tanks <= 8; tanks++) {
            FilterWaterworks alone = Edges.tanks(tanks);
            both("each alone", tanks, alone.groupCount(), alone.groupCountByUnions());
            FilterWaterworks row = Edges.row(tanks, 100);
            both("a row", tanks == 0 ? 0 : 1, row.groupCount(), row.groupCountByUnions());
            for (int pipe = 0; pipe < tanks - 1; pipe++) {
                row.setValve(pipe, 0);
                both("closed one by one", pipe + 2, row.groupCount(), row.groupCountByUnions());
            }
        }
    }

    /** Pipes between tanks of one group unite nothing any more. */
    @Sentence(GROUP)
    static void termsGroupsWithTwelvePipes() {
        FilterWaterworks works = Edges.tanks(8);
        for (int pipe = 0; pipe < 12; pipe++) {
            works.addPipe((pipe + 1) % 4, pipe % 4, 0);
            works.setValve(pipe, 1);
        }
        both("a ring of four, thrice", 5, works.groupCount(), works.groupCountByUnions());
    }

    /** The pipes come in an order in which sets of several tanks are united. */
    @Sentence(GROUP)
    static void termsGroupsOfGroups() {
        FilterWaterworks works = Edges.tanks(8);
        int[][] pipes = {{1, 0}, {3, 2}, {5, 4}, {7, 6}, {3, 1}, {7, 5}, {0, 2}, {6, 0}};
        int[] groups = {7, 6, 5, 4, 3, 2, 2, 1};
        for (int pipe = 0; pipe < pipes.length; pipe++) {
            works.addPipe(pipes[pipe][0], pipes[pipe][1], 0);
            works.setValve(pipe, 4);
            both("pipe " + pipe, groups[pipe], works.groupCount(), works.groupCountByUnions());
        }
    }

    @Sentence(GROUP)
    static void termsGroupsUntilClogged() {
        both("dirt 19", 1, Edges.dirty(19).groupCount(), Edges.dirty(19).groupCountByUnions());
        both("dirt 20", 2, Edges.dirty(20).groupCount(), Edges.dirty(20).groupCountByUnions());
    }

    private static final String BRIDGE = "A bridge is an open pipe whose tanks would not be connected any more if it was"
            + " not open.";

    private static void bridges(String what, FilterWaterworks works, int... bridges) {
        both(what, bridges.length, works.bridgeCount(), works.bridgeCountByLeavingOut());
        for (int pipe = 0; pipe < works.pipeCount(); pipe++) {
            boolean due = false;
            for (int bridge : bridges) {
                due = due || bridge == pipe;
            }
            Check.due(what + ", pipe " + pipe, due, works.isBridge(pipe));
        }
    }

    @Sentence(BRIDGE)
    static void termsBridgesOfNoPipe() {
        for (int tanks = 0; tanks <= 8; tanks++) {
            bridges("no pipe", Edges.tanks(tanks));
        }
    }

    @Sentence(BRIDGE)
    static void termsBridgesInARow() {
        bridges("all pipes", Edges.row(8, 100), 0, 1, 2, 3, 4, 5, 6);
        FilterWaterworks ring = Edges.row(8, 100);
        ring.addPipe(7, 0, 0);
        bridges("the ring is not closed", ring, 0, 1, 2, 3, 4, 5, 6);
        ring.setValve(7, 1);
        bridges("it is closed", ring);
        ring.setValve(4, 0);
        bridges("it is cut", ring, 0, 1, 2, 3, 5, 6, 7);
    }

    @Sentence(BRIDGE)
    static void termsBridgesBesideOthers() {
        FilterWaterworks works = Edges.pipes(12);
        bridges("12 closed ones", works);
        works.setValve(11, 1);
        bridges("one is open", works, 11);
        works.setValve(0, 1);
        bridges("two are open", works);
        works.setValve(11, 0);
        bridges("the other one is", works, 0);
    }

    @Sentence(BRIDGE)
    static void termsBridgesUntilClogged() {
        bridges("dirt 19", Edges.dirty(19), 0);
        bridges("dirt 20", Edges.dirty(20));
        FilterWaterworks works = Edges.dirty(19);
        works.addPipe(1, 0, 0);
        works.setValve(1, 1);
        bridges("two pipes", works);
        works.advance(1);
        bridges("the one beside it is clogged", works, 1);
    }

    private static final String WIDTH = "The width of a connection is the smallest setting of its pipes; the widest"
            + " connection of two tanks has the greatest width.";

    private static void width(String what, FilterWaterworks works, int first, int second, int want) {
        both(what, want, works.width(first, second), works.widthBySettings(first, second));
        both(what + ", back", want, works.width(second, first), works.widthBySettings(second, first));
    }

    @Sentence(WIDTH)
    static void termsWidthOfOnePipe() {
        for (int setting = 0; setting <= 4; setting++) {
            width("setting " + setting, Edges.pair(999, 0, 0, setting), 0, 1, setting);
        }
        width("dirt 19", Edges.dirty(19), 0, 1, 1);
        width("dirt 20", Edges.dirty(20), 0, 1, 0);
    }

    @Sentence(WIDTH)
    static void termsWidthIsTheSmallestSetting() {
        for (int narrow = 0; narrow < 7; narrow++) {
            FilterWaterworks works = Edges.row(8, 100);
            for (int pipe = 0; pipe < 7; pipe++) {
                works.setValve(pipe, pipe == narrow ? 2 : 4);
            }
            width("narrow pipe " + narrow, works, 0, 7, 2);
            works.setValve(narrow, 0);
            width("closed pipe " + narrow, works, 0, 7, 0);
        }
    }

    @Sentence(WIDTH)
    static void termsWidestOfTheConnections() {
        FilterWaterworks works = Edges.row(8, 100);
        works.addPipe(7, 0, 0);
        works.setValve(7, 1);
        for (int pipe = 0; pipe < 7; pipe++) {
            works.setValve(pipe, 3);
        }
        width("the long way is wider", works, 0, 7, 3);
        works.setValve(7, 3);
        width("as wide", works, 0, 7, 3);
        works.setValve(7, 4);
        width("the short way is wider", works, 0, 7, 4);
        works.addPipe(0, 1, 0);
        works.setValve(8, 4);
        width("a second pipe beside", works, 7, 1, 4);
    }

    // ---- cleaning ----

    private static final String CLEANING = "Water that goes through open pipes, in whatever direction and as often as one"
            + " likes, loses in each pipe the impurities that its filter holds back.";

    private static void cleanest(String what, FilterWaterworks works, int from, int to, int want) {
        both(what, want, works.cleanest(from, to), works.cleanestByPasses(from, to));
    }

    /** A row of eight tanks, each pipe of which holds back one letter; the first tank has all letters. */
    private static FilterWaterworks cleaningRow() {
        FilterWaterworks works = Edges.tanks(8);
        works.pour(0, 1, 255);
        for (int pipe = 0; pipe < 7; pipe++) {
            works.addPipe(pipe % 2 == 0 ? pipe : pipe + 1, pipe % 2 == 0 ? pipe + 1 : pipe, 1 << pipe);
            works.setValve(pipe, 1);
        }
        return works;
    }

    @Sentence(CLEANING)
    static void termsCleaningAsOftenAsOneLikes() {
        FilterWaterworks works = cleaningRow();
        for (int tank = 0; tank < 8; tank++) {
            cleanest("there, and back to " + tank, works, 0, tank, 1);
        }
        works.setValve(3, 0);
        for (int tank = 0; tank < 4; tank++) {
            cleanest("not through the closed pipe, to " + tank, works, 0, tank, 5);
        }
        works.setValve(0, 0);
        cleanest("no open pipe", works, 0, 0, 8);
    }

    @Sentence(CLEANING)
    static void termsCleaningUntilClogged() {
        cleanest("dirt 19", Edges.dirty(19), 0, 1, 0);
        cleanest("dirt 19, there and back", Edges.dirty(19), 0, 0, 0);
        cleanest("dirt 20", Edges.dirty(20), 0, 0, 1);
    }

    private static final String CLEANEST = "The cleanest way from a tank to another one is one on which as few impurities"
            + " as possible are left of those that are in the first tank now; its water is only thought of, so that"
            + " nothing changes.";

    @Sentence(CLEANEST)
    static void termsCleanestOfNoneAndOfAll() {
        for (int letters = 0; letters <= 8; letters++) {
            int set = (1 << letters) - 1;
            cleanest("no filter", Edges.pair(9, set, 0, 1), 0, 1, letters);
            cleanest("a filter of all", Edges.pair(9, set, 255, 1), 0, 1, 0);
            int left = letters == 0 ? 0 : Math.min(letters - 1, 6);
            cleanest("a filter of 'a' and 'h'", Edges.pair(9, set, 129, 1), 0, 1, left);
        }
    }

    /** What is in the tanks on the way does not count, nor what was in the first tank before. */
    @Sentence(CLEANEST)
    static void termsCleanestOfWhatIsThereNow() {
        FilterWaterworks works = Edges.pair(9, 0, 1, 1);
        works.pour(1, 9, 0b1111);
        cleanest("the first tank is pure", works, 0, 1, 0);
        cleanest("the other one is not", works, 1, 0, 3);
        works.draw(1, 9);
        cleanest("it is empty", works, 1, 0, 0);
        works.undo();
        works.pour(1, 1, 0b10000);
        cleanest("one more", works, 1, 0, 4);
    }

    @Sentence(CLEANEST)
    static void termsCleanestChangesNothing() {
        FilterWaterworks works = Edges.busy();
        works.cleanest(1, 2);
        works.cleanestByPasses(1, 2);
        Check.due("everything", Edges.everything(Edges.busy()), Edges.everything(works));
    }

    // ---- still water ----

    private static final String STILL = "The waterworks is still if nothing would flow in the next minute.";

    @Sentence(STILL)
    static void termsStill() {
        Check.due("no tank", 0, new FilterWaterworks().minutesUntilStill());
        Check.due("no pipe", 0, Edges.tanks(8).minutesUntilStill());
        Check.due("closed", 0, Edges.pair(999, 0, 0, 0).minutesUntilStill());
        Check.due("clogged", 0, Edges.dirty(20).minutesUntilStill());
        Check.due("not yet clogged", 1, Edges.dirty(19).minutesUntilStill());
        Check.due("a difference of 1", 0, Edges.pair(1, 0, 0, 4).minutesUntilStill());
        Check.due("a difference of 2", 1, Edges.pair(2, 0, 0, 4).minutesUntilStill());
    }

    @Sentence(STILL)
    static void termsStillBecauseNothingFits() {
        FilterWaterworks works = new FilterWaterworks();
        works.addTank(10);
        works.addTank(999);
        works.addPipe(0, 1, 0);
        works.setValve(0, 1);
        works.pour(1, 999, 0);
        works.pour(0, 9, 0);
        Check.due("1 litre fits", 1, works.minutesUntilStill());
        works.pour(0, 1, 0);
        Check.due("full", 0, works.minutesUntilStill());
    }

    /** All of it is spilled: something flows, though nothing comes. */
    @Sentence(STILL)
    static void termsNotStillWhileItSpills() {
        FilterWaterworks works = Edges.pair(4, 0, 0, 1);
        works.setLeak(0, 9);
        Check.due("2 litres, then 1, then none", 2, works.minutesUntilStill());
    }

    @Sentence(STILL)
    static void termsOneOfTwelvePipesFlows() {
        FilterWaterworks works = Edges.pipes(12);
        works.draw(0, 48);
        Check.due("none is open", 0, works.minutesUntilStill());
        works.setValve(11, 1);
        Check.due("the last one is", 1, works.minutesUntilStill());
    }

    private static final String PREDICTION = "A prediction describes what would happen if nothing but minutes passed from"
            + " now on.";

    @Sentence(PREDICTION)
    static void termsPredictionAndWhatHappens() {
        FilterWaterworks works = Edges.row(4, 100);
        works.pour(0, 100, 3);
        works.setLeak(1, 1);
        works.setValve(2, 4);
        int minutes = works.minutesUntilStill();
        Check.due("it takes some time", true, minutes > 3);
        for (int left = minutes; left > 0; left--) {
            Check.due("predicted", left, works.minutesUntilStill());
            int before = throughAll(works);
            works.advance(1);
            Check.due("something has flown", true, throughAll(works) > before);
        }
        Check.due("still", 0, works.minutesUntilStill());
        int before = throughAll(works);
        works.advance(60);
        Check.due("nothing flows any more", before, throughAll(works));
    }

    private static int throughAll(FilterWaterworks works) {
        return works.litresThrough(0) + works.litresThrough(1) + works.litresThrough(2);
    }

    @Sentence(PREDICTION)
    static void termsPredictionChangesNothing() {
        FilterWaterworks works = Edges.busy();
        works.minutesUntilStill();
        Check.due("everything", Edges.everything(Edges.busy()), Edges.everything(works));
    }

    // ---- fingerprints ----

    @Sentence("The fingerprint of the waterworks is a 64-bit number.")
    static void termsFingerprintOf64Bits() {
        FilterWaterworks works = new FilterWaterworks();
        long due = 17L;
        for (int tank = 0; tank < 8; tank++) {
            works.addTank(10);
            due = Long.rotateLeft(due, 5) ^ 10000L;
        }
        Check.due("8 tanks", due, works.fingerprint());
        works.addPipe(0, 1, 0);
        due = Long.rotateLeft(due, 7);
        Check.due("more than 32 bits", true, due >>> 32 != 0L);
        Check.due("a pipe", due, works.fingerprint());
        for (int pipe = 1; pipe < 12; pipe++) {
            works.addPipe(0, 1, 0);
            due = Long.rotateLeft(due, 7);
            Check.due("round and round", due, works.fingerprint());
        }
    }

    private static final String PRINT = "It begins with 17; then, for each tank in the order of indices, it is rotated to"
            + " the left by 5 bits and combined by exclusive or with content + 1000 * capacity + 1000000 * impurities,"
            + " and then, for each pipe in the order of indices, it is rotated to the left by 7 bits and combined by"
            + " exclusive or with setting + 5 * dirt + 1000 * rate + 10000 * mesh.";

    @Sentence(PRINT)
    static void termsFingerprintOfNothing() {
        Check.due("17", 17L, new FilterWaterworks().fingerprint());
    }

    @Sentence(PRINT)
    static void termsFingerprintOfTanks() {
        FilterWaterworks works = new FilterWaterworks();
        works.addTank(10);
        Check.due("the least tank", 17L * 32 ^ 10000L, works.fingerprint());
        works.addTank(999);
        works.pour(1, 999, 255);
        Check.due("a full one", (17L * 32 ^ 10000L) * 32 ^ 255999999L, works.fingerprint());
    }

    @Sentence(PRINT)
    static void termsFingerprintOfPipes() {
        FilterWaterworks works = new FilterWaterworks();
        works.addTank(999);
        works.addTank(999);
        works.addPipe(0, 1, 255);
        works.setValve(0, 4);
        works.setLeak(0, 9);
        works.pour(0, 999, 255);
        works.advance(3);
        long tanks = (17L * 32 ^ 255999939L) * 32 ^ 999033L;
        Check.due("a clogged one", tanks * 128 ^ 2559104L, works.fingerprint());
        works.addPipe(1, 0, 0);
        Check.due("a new one", Long.rotateLeft(tanks * 128 ^ 2559104L, 7), works.fingerprint());
    }

    /** Neither of time, of the totals nor of the litres that have gone through. */
    @Sentence(PRINT)
    static void termsFingerprintOfNothingElse() {
        FilterWaterworks works = Edges.pair(10, 0, 0, 0);
        long print = works.fingerprint();
        works.advance(9);
        works.draw(0, 10);
        works.pour(1, 10, 0);
        works.setValve(0, 4);
        works.advance(1);
        works.draw(1, 5);
        works.pour(0, 5, 0);
        works.setValve(0, 0);
        Check.due("the same", print, works.fingerprint());
    }
}
