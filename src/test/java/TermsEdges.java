/** What stands before the promises of the calls' number, of tanks, pipes and minutes. */
final class TermsEdges {
    private TermsEdges() {
    }

    @Sentence("An object is used for at most 512 calls after it has been made; what later calls answer is free.")
    static void termsCall512() {
        FilterWaterworks works = Edges.pair(999, 0, 0, 1);
        int minutes = 0;
        for (int calls = 5; calls < 511; calls += 2) {
            minutes += 60;
            works.advance(60);
            Check.due("time after call " + calls, minutes, works.time());
        }
        Check.due("call 512", 500, works.content(0));
    }

    @Sentence("An object is used for at most 512 calls after it has been made; what later calls answer is free.")
    static void termsCall512AfterChangesAlone() {
        FilterWaterworks works = new FilterWaterworks();
        works.addTank(999);
        for (int calls = 1; calls < 509; calls += 2) {
            works.pour(0, 999, 255);
            works.draw(0, 999);
        }
        Check.due("the greatest sum", 999 * 254, works.pouredTotal());
        Check.due("the latest change", 7, works.undo());
        Check.due("call 512", 999, works.totalContentByAccounts());
    }

    @Sentence("All integer divisions round down.")
    static void termsDivisionsRoundDown() {
        int[] due = {0, 0, 1, 1, 2, 2, 3, 3};
        for (int difference = 0; difference < due.length; difference++) {
            FilterWaterworks works = Edges.pair(100 + difference, 0, 0, 4);
            works.pour(1, 100, 0);
            flows(works, due[difference]);
            works = Edges.pair(100, 0, 0, 4);
            works.pour(1, 100 + difference, 0);
            flows(works, -due[difference]);
        }
    }

    /** So many litres leave the first tank by pipe 0 in one minute (the second one, if negative), and none is spilled. */
    private static void flows(FilterWaterworks works, int litres) {
        int first = works.content(0);
        int second = works.content(1);
        String what = "from " + first + " litres to " + second;
        Check.due(what + ", flow", litres, works.flow(0));
        works.advance(1);
        Check.due(what + ", first tank", first - litres, works.content(0));
        Check.due(what + ", second tank", second + litres, works.content(1));
        Check.due(what + ", litres", litres < 0 ? -litres : litres, works.litresThrough(0));
    }

    // ---- tanks and impurities ----

    @Sentence("At most 8 tanks exist; they have the indices 0 to n - 1 in the order in which they were added.")
    static void termsEightTanks() {
        FilterWaterworks works = new FilterWaterworks();
        for (int tank = 0; tank < 8; tank++) {
            Check.due("index", tank, works.addTank(100 - tank));
            Check.due("count", tank + 1, works.tankCount());
        }
        Check.thrown("a ninth", Edges.STATE, () -> works.addTank(100));
        for (int tank = 0; tank < 8; tank++) {
            Check.due("capacity", 100 - tank, works.capacity(tank));
        }
        Check.due("count", 8, works.tankCount());
        works.undo();
        Check.due("there is room for the eighth again", 7, works.addTank(50));
    }

    @Sentence("A tank has a capacity from 10 to 999 litres, a content, which is 0 initially, and a set of impurities in"
            + " its water, which is empty initially.")
    static void termsNewTank() {
        for (int capacity : new int[] {10, 11, 998, 999}) {
            FilterWaterworks works = new FilterWaterworks();
            works.addTank(capacity);
            Check.due("capacity", capacity, works.capacity(0));
            Check.due("content", 0, works.content(0));
            Check.due("impurities", 0, works.impurities(0));
            Check.due("all of it can be filled", capacity, works.pour(0, capacity, 0));
            Check.thrown("and no more", Edges.UNSUPPORTED, () -> works.pour(0, 1, 0));
        }
    }

    /** A tank that comes in the place of one that was undone has nothing of that one. */
    @Sentence("A tank has a capacity from 10 to 999 litres, a content, which is 0 initially, and a set of impurities in"
            + " its water, which is empty initially.")
    static void termsNewTankInThePlaceOfAnother() {
        FilterWaterworks works = new FilterWaterworks();
        works.addTank(100);
        works.pour(0, 60, 255);
        works.undo();
        works.undo();
        works.addTank(70);
        Check.due("empty", "0=0/70", Check.tank(works, 0));
    }

    @Sentence("There are 8 impurities, the letters from 'a' to 'h'; a set of them is the sum of 2 to the power of k for"
            + " each letter, where k is 0 for 'a' and so on.")
    static void termsSetsOfImpurities() {
        String letters = "abcdefgh";
        int[] powers = {1, 2, 4, 8, 16, 32, 64, 128};
        for (int k = 0; k < 8; k++) {
            FilterWaterworks works = Edges.tanks(1);
            works.draw(0, 50);
            works.pour(0, 1, powers[k]);
            for (int other = 0; other < 8; other++) {
                Check.due("letter", other == k, works.hasImpurity(0, letters.charAt(other)));
            }
            Check.due("rendered", "0=1/100:" + letters.charAt(k), Check.tank(works, 0));
        }
        FilterWaterworks works = Edges.tanks(1);
        works.pour(0, 1, 255);
        Check.due("all", "0=51/100:abcdefgh", Check.tank(works, 0));
    }

    @Sentence("When a tank becomes empty, it has no impurities any more.")
    static void termsEmptyTank() {
        FilterWaterworks works = new FilterWaterworks();
        works.addTank(100);
        works.pour(0, 100, 255);
        works.draw(0, 99);
        Check.due("1 litre keeps them", 255, works.impurities(0));
        works.draw(0, 1);
        Check.due("empty", 0, works.impurities(0));
        Check.due("no letter", false, works.hasImpurity(0, 'h'));
        works.pour(0, 5, 0);
        Check.due("they do not come back", 0, works.impurities(0));
        works.undo();
        works.undo();
        Check.due("but by undo", 255, works.impurities(0));
        Check.run(works, "draw 0 1;pour 0 9/b");
        Check.due("by a script", 2, works.impurities(0));
    }

    // ---- pipes ----

    @Sentence("At most 12 pipes exist, numbered in the same way.")
    static void termsTwelvePipes() {
        FilterWaterworks works = Edges.tanks(8);
        for (int pipe = 0; pipe < 12; pipe++) {
            Check.due("index", pipe, works.addPipe(pipe % 8, 7 - pipe % 8, pipe));
            Check.due("count", pipe + 1, works.pipeCount());
        }
        Check.thrown("a thirteenth", Edges.STATE, () -> works.addPipe(0, 1, 0));
        for (int pipe = 0; pipe < 12; pipe++) {
            Check.due("mesh", pipe, works.mesh(pipe));
        }
        Check.due("count", 12, works.pipeCount());
        works.undo();
        Check.due("there is room for the twelfth again", 11, works.addPipe(0, 1, 0));
    }

    @Sentence("A pipe connects two different tanks; several pipes can connect the same tanks.")
    static void termsPipesBetweenTheSameTanks() {
        FilterWaterworks works = Edges.tanks(2);
        Check.thrown("no pipe from a tank to itself", Edges.ARGUMENT, () -> works.addPipe(0, 0, 0));
        Check.thrown("nor from the last one", Edges.ARGUMENT, () -> works.addPipe(1, 1, 0));
        for (int pipe = 0; pipe < 12; pipe++) {
            Check.due("index", pipe, works.addPipe(pipe / 6, 1 - pipe / 6, 9));
        }
        Check.due("first", "0 1", works.firstOf(0) + " " + works.secondOf(0));
        Check.due("last", "1 0", works.firstOf(11) + " " + works.secondOf(11));
    }

    private static final String PIPE = "It has a valve with a setting from 0 to 4, initially 0, a leak with a rate from 0"
            + " to 9, initially 0, and a filter with a mesh, which is the set of impurities that it holds back, and dirt"
            + " from 0 to 20, initially 0.";

    @Sentence(PIPE)
    static void termsNewPipe() {
        for (int mesh : new int[] {0, 1, 254, 255}) {
            FilterWaterworks works = Edges.tanks(2);
            works.addPipe(0, 1, mesh);
            Check.due("new", "0:0-1v0d0", Check.pipe(works, 0));
            Check.due("valve", 0, works.valve(0));
            Check.due("leak", 0, works.leak(0));
            Check.due("mesh", mesh, works.mesh(0));
            Check.due("dirt", 0, works.dirt(0));
        }
    }

    @Sentence(PIPE)
    static void termsNewPipeInThePlaceOfAnother() {
        FilterWaterworks works = Edges.tanks(3);
        works.pour(0, 30, 0);
        works.addPipe(0, 1, 255);
        works.setValve(0, 4);
        works.setLeak(0, 9);
        works.advance(1);
        for (int undone = 0; undone < 4; undone++) {
            works.undo();
        }
        works.addPipe(2, 0, 0);
        Check.due("nothing of it is left", "0:2-0v0d0", Check.pipe(works, 0));
        Check.due("nor a litre", 0, works.litresThrough(0));
        Check.due("nor the mesh", 0, works.mesh(0));
    }

    @Sentence(PIPE)
    static void termsSettings() {
        for (int setting = 0; setting <= 4; setting++) {
            FilterWaterworks works = Edges.pipes(1);
            works.setValve(0, setting);
            Check.due("setting", setting, works.valve(0));
        }
        Check.thrown("-1", Edges.ARGUMENT, () -> Edges.pipes(1).setValve(0, -1));
        Check.thrown("5", Edges.ARGUMENT, () -> Edges.pipes(1).setValve(0, 5));
    }

    @Sentence(PIPE)
    static void termsRates() {
        for (int rate = 0; rate <= 9; rate++) {
            FilterWaterworks works = Edges.pipes(1);
            works.setLeak(0, rate);
            Check.due("rate", rate, works.leak(0));
        }
        Check.thrown("-1", Edges.ARGUMENT, () -> Edges.pipes(1).setLeak(0, -1));
        Check.thrown("10", Edges.ARGUMENT, () -> Edges.pipes(1).setLeak(0, 10));
    }

    @Sentence("A filter with the dirt 20 is clogged.")
    static void termsClogged() {
        FilterWaterworks works = Edges.dirty(19);
        Check.due("not yet", "true 5", works.isOpen(0) + " " + works.flow(0));
        works = Edges.dirty(20);
        Check.due("clogged", "false 0", works.isOpen(0) + " " + works.flow(0));
        works.advance(1);
        Check.due("nothing flows any more", 100, works.litresThrough(0));
    }

    @Sentence("A pipe is open if the setting of its valve is not 0 and its filter is not clogged.")
    static void termsOpen() {
        for (int setting = 0; setting <= 4; setting++) {
            FilterWaterworks clean = Edges.pair(999, 0, 255, setting);
            Check.due("clean, setting " + setting, setting != 0, clean.isOpen(0));
            FilterWaterworks almost = Edges.dirty(19);
            almost.setValve(0, setting);
            Check.due("dirt 19, setting " + setting, setting != 0, almost.isOpen(0));
            FilterWaterworks clogged = Edges.dirty(20);
            clogged.setValve(0, setting);
            Check.due("clogged, setting " + setting, false, clogged.isOpen(0));
            clogged.cleanFilter(0);
            Check.due("cleaned, setting " + setting, setting != 0, clogged.isOpen(0));
        }
    }

    // ---- one minute ----

    @Sentence("Time is counted in minutes from 0.")
    static void termsTimeFromZero() {
        FilterWaterworks works = new FilterWaterworks();
        Check.due("new", 0, works.time());
        works.advance(1);
        Check.due("one", 1, works.time());
    }

    private static final String VISITS = "In one minute, the time increases by 1; then the pipes are visited in the order"
            + " of their indices.";

    @Sentence(VISITS)
    static void termsMinutesWithoutPipes() {
        for (int minutes : new int[] {1, 2, 59, 60}) {
            FilterWaterworks works = new FilterWaterworks();
            works.advance(minutes);
            Check.due("no tank", minutes, works.time());
            works.addTank(10);
            works.advance(minutes);
            Check.due("no pipe", 2 * minutes, works.time());
        }
    }

    @Sentence(VISITS)
    static void termsOrderOfTheVisits() {
        Check.due("on in the same minute", "60 10 10, 1 1 1", afterAMinute(0, 1));
        Check.due("on in the next minute", "60 20 0, 1 1 0", afterAMinute(1, 0));
    }

    /** Contents and impurities of three tanks in a row, with water in tank 0, when the pipes are added in an order. */
    private static String afterAMinute(int first, int second) {
        FilterWaterworks works = Edges.tanks(3);
        works.draw(1, 50);
        works.draw(2, 50);
        works.pour(0, 30, 0);
        works.addPipe(first, first + 1, 0);
        works.addPipe(second, second + 1, 0);
        works.setValve(0, 4);
        works.setValve(1, 4);
        works.advance(1);
        return works.content(0) + " " + works.content(1) + " " + works.content(2) + ", "
                + works.impurities(0) + " " + works.impurities(1) + " " + works.impurities(2);
    }

    private static final String WATER = "If a pipe is open, water flows through it from the tank with the greater content"
            + " to the other one: 5 litres for each step of its setting, but at most half of the difference of both"
            + " contents, and at most what still fits into the other tank.";

    @Sentence(WATER)
    static void termsLitresOfAStep() {
        int[] litres = {0, 5, 10, 15, 20};
        for (int setting = 0; setting <= 4; setting++) {
            flows(Edges.pair(999, 0, 0, setting), litres[setting]);
        }
    }

    @Sentence(WATER)
    static void termsHalfOfTheDifference() {
        for (int setting = 1; setting <= 4; setting++) {
            flows(Edges.pair(10 * setting + 2, 0, 0, setting), 5 * setting);
            flows(Edges.pair(10 * setting, 0, 0, setting), 5 * setting);
            flows(Edges.pair(10 * setting - 2, 0, 0, setting), 5 * setting - 1);
        }
    }

    @Sentence(WATER)
    static void termsWhatStillFits() {
        for (int setting = 1; setting <= 4; setting++) {
            for (int room : new int[] {0, 1, 5 * setting - 1, 5 * setting, 5 * setting + 1}) {
                FilterWaterworks works = new FilterWaterworks();
                works.addTank(999);
                works.addTank(100);
                works.addPipe(0, 1, 0);
                works.setValve(0, setting);
                works.pour(0, 999, 0);
                works.pour(1, 100 - room, 0);
                flows(works, Math.min(room, 5 * setting));
            }
        }
    }

    /** What would be spilled on the way counts as well: it must fit. */
    @Sentence(WATER)
    static void termsALeakDoesNotLetMoreFit() {
        for (int room = 0; room <= 25; room++) {
            FilterWaterworks works = new FilterWaterworks();
            works.addTank(100);
            works.addTank(999);
            works.addPipe(0, 1, 255);
            works.setValve(0, 4);
            works.setLeak(0, 9);
            works.pour(0, 100 - room, 0);
            works.pour(1, 999, 1);
            int litres = Math.min(20, room);
            Check.due("flow, room " + room, -litres, works.flow(0));
            Check.due("spilled, room " + room, Math.min(9, litres), works.advance(1));
            Check.due("left, room " + room, 999 - litres, works.content(1));
            Check.due("came, room " + room, 100 - room + litres - Math.min(9, litres), works.content(0));
            Check.due("dirt, room " + room, Math.min(1, litres), works.dirt(0));
        }
    }

    /** The tank that the water leaves may be full, and it has less room than flows. */
    @Sentence(WATER)
    static void termsTheRoomOfTheFullerTankDoesNotMatter() {
        FilterWaterworks works = new FilterWaterworks();
        works.addTank(999);
        works.addTank(100);
        works.addPipe(0, 1, 0);
        works.setValve(0, 4);
        works.pour(1, 100, 0);
        flows(works, -20);
    }

    @Sentence(WATER)
    static void termsEqualContents() {
        for (int litres : new int[] {1, 500, 999}) {
            FilterWaterworks works = Edges.pair(litres, 0, 0, 4);
            works.pour(1, litres, 0);
            flows(works, 0);
        }
        FilterWaterworks empty = Edges.pair(1, 0, 0, 4);
        empty.draw(0, 1);
        flows(empty, 0);
    }

    private static final String LEAVES = "If this is at least 1 litre, it leaves the one tank; as many litres of it as the"
            + " rate of the leak are spilled, or all if it is less, and the rest comes to the other tank.";

    @Sentence(LEAVES)
    static void termsAtLeastOneLitre() {
        FilterWaterworks works = Edges.pair(3, 1, 1, 4);
        works.setLeak(0, 1);
        works.advance(1);
        Check.due("1 litre leaves", "2 0", works.content(0) + " " + works.content(1));
        Check.due("and is spilled, with dirt", "1 1 1", traces(works));
        works.draw(0, 1);
        works.advance(1);
        Check.due("less than 1 litre does not", "1 0", works.content(0) + " " + works.content(1));
        Check.due("and leaves no trace", "1 1 1", traces(works));
    }

    private static String traces(FilterWaterworks works) {
        return works.spilledTotal() + " " + works.dirt(0) + " " + works.litresThrough(0);
    }

    @Sentence(LEAVES)
    static void termsSpilledLitres() {
        for (int setting = 1; setting <= 4; setting++) {
            for (int rate = 0; rate <= 9; rate++) {
                FilterWaterworks works = Edges.pair(999, 0, 0, setting);
                works.setLeak(0, rate);
                int spilled = Math.min(rate, 5 * setting);
                Check.due("setting " + setting + ", rate " + rate, spilled, works.advance(1));
                Check.due("left", 999 - 5 * setting, works.content(0));
                Check.due("came", 5 * setting - spilled, works.content(1));
                Check.due("total", spilled, works.spilledTotal());
                Check.due("litres", 5 * setting, works.litresThrough(0));
            }
        }
    }

    private static final String CARRIED = "If something comes there, that tank gets those impurities of the tank that the"
            + " water leaves which the filter does not hold back; the tank that the water leaves keeps its impurities.";

    @Sentence(CARRIED)
    static void termsImpuritiesComeWithALitre() {
        for (int rate = 3; rate <= 6; rate++) {
            FilterWaterworks works = Edges.pair(999, 0b1111, 0b0101, 1);
            works.setLeak(0, rate);
            works.advance(1);
            Check.due("rate " + rate, rate < 5 ? 0b1010 : 0, works.impurities(1));
            Check.due("the other tank keeps all", 0b1111, works.impurities(0));
        }
    }

    @Sentence(CARRIED)
    static void termsFiltersOfNoneAndOfAll() {
        FilterWaterworks none = Edges.pair(999, 255, 0, 1);
        none.advance(1);
        Check.due("mesh 0", "255 255", none.impurities(0) + " " + none.impurities(1));
        FilterWaterworks all = Edges.pair(999, 255, 255, 1);
        all.advance(1);
        Check.due("mesh 255", "255 0", all.impurities(0) + " " + all.impurities(1));
        Check.due("though water came", 5, all.content(1));
    }

    /** What the other tank has already stays there, also what the filter would hold back. */
    @Sentence(CARRIED)
    static void termsImpuritiesOfTheOtherTank() {
        FilterWaterworks works = Edges.pair(999, 0b0011, 0b0101, 1);
        works.pour(1, 1, 0b1100);
        works.advance(1);
        Check.due("its own and the new one", 0b1110, works.impurities(1));
        Check.due("nothing comes back", 0b0011, works.impurities(0));
        works.advance(1);
        Check.due("what comes again is there already", 0b1110, works.impurities(1));
    }

    private static final String DIRT = "The dirt of the filter increases by the number of impurities of the tank that the"
            + " water leaves which it holds back, but not beyond 20, even if nothing comes to the other tank.";

    @Sentence(DIRT)
    static void termsDirtOfEachMinute() {
        int[] sets = {0b0000, 0b1000, 0b0001, 0b1011, 0b0111, 0b11111111};
        int[] dirt = {0, 0, 1, 2, 3, 3};
        for (int i = 0; i < sets.length; i++) {
            FilterWaterworks works = Edges.pair(999, sets[i], 0b0111, 1);
            works.pour(1, 1, 255);
            works.advance(1);
            Check.due("set " + sets[i], dirt[i], works.dirt(0));
        }
    }

    @Sentence(DIRT)
    static void termsDirtNotBeyond20() {
        int[] before = {17, 18, 18, 19, 19, 19};
        int[] held = {3, 1, 2, 1, 2, 8};
        int[] due = {20, 19, 20, 20, 20, 20};
        for (int i = 0; i < before.length; i++) {
            FilterWaterworks works = Edges.pair(900, 1, 255, 1);
            works.advance(before[i]);
            works.pour(0, 1, (1 << held[i]) - 1);
            works.advance(1);
            Check.due(before[i] + " and " + held[i], due[i], works.dirt(0));
        }
    }

    @Sentence(DIRT)
    static void termsDirtIfNothingComes() {
        for (int rate = 4; rate <= 6; rate++) {
            FilterWaterworks works = Edges.pair(999, 0b110, 0b011, 1);
            works.setLeak(0, rate);
            works.advance(2);
            Check.due("rate " + rate, 2, works.dirt(0));
            Check.due("came", rate < 5 ? 2 : 0, works.content(1));
        }
    }
}
