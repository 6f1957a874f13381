/** The boundaries that the promises 29 to 39 name. */
final class ConnectionsEdges {
    private ConnectionsEdges() {
    }

    @Sentence(promise = 29, value = Edges.NO_TANKS)
    static void promise29NoTank() {
        Edges.needsTanks(FilterWaterworks::areConnected);
    }

    @Sentence(promise = 29, value = "Returns true if they are connected.")
    static void promise29ByTheLeastSetting() {
        for (int setting = 0; setting <= 4; setting++) {
            FilterWaterworks works = Edges.pair(1, 0, 255, setting);
            Check.due("setting " + setting, setting > 0, works.areConnected(0, 1));
            Check.due("back", setting > 0, works.areConnected(1, 0));
        }
    }

    // ---- groups and bridges ----

    private static void groups(java.util.function.ToIntFunction<FilterWaterworks> count) {
        for (int tanks = 0; tanks <= 8; tanks++) {
            Check.due(tanks + " tanks alone", tanks, count.applyAsInt(Edges.tanks(tanks)));
            Check.due(tanks + " tanks in a row", Math.min(1, tanks), count.applyAsInt(Edges.row(tanks, 10)));
        }
        FilterWaterworks works = Edges.pipes(12);
        Check.due("12 closed pipes", 2, count.applyAsInt(works));
        works.setValve(11, 1);
        Check.due("the last one is open", 1, count.applyAsInt(works));
        works.setValve(0, 4);
        Check.due("the first one too", 1, count.applyAsInt(works));
        Check.due("dirt 19", 1, count.applyAsInt(Edges.dirty(19)));
        Check.due("dirt 20", 2, count.applyAsInt(Edges.dirty(20)));
        FilterWaterworks cross = Edges.tanks(8);
        int[][] pipes = {{0, 7}, {1, 6}, {2, 5}, {3, 4}, {7, 4}, {6, 5}};
        for (int[] pipe : pipes) {
            cross.setValve(cross.addPipe(pipe[0], pipe[1], 0), 1);
        }
        Check.due("0 3 4 7 and 1 2 5 6", 2, count.applyAsInt(cross));
    }

    @Sentence(promise = 30, value = "Returns the number of groups, found by walking from tank to tank.")
    static void promise30NoneToEight() {
        groups(FilterWaterworks::groupCount);
    }

    @Sentence(promise = 31, value = "Returns the same number, found by uniting sets of tanks pipe by pipe.")
    static void promise31NoneToEight() {
        groups(FilterWaterworks::groupCountByUnions);
    }

    @Sentence(promise = 32, value = Edges.NO_PIPE)
    static void promise32NoPipe() {
        Edges.needsPipe(FilterWaterworks::isBridge);
    }

    @Sentence(promise = 32, value = "Returns true if it is a bridge.")
    static void promise32OneOfTwelve() {
        FilterWaterworks works = Edges.pipes(12);
        Check.due("closed", false, works.isBridge(11));
        works.setValve(11, 1);
        Check.due("open alone", true, works.isBridge(11));
        Check.due("a closed one beside it", false, works.isBridge(0));
        works.setValve(0, 1);
        Check.due("open with another one", false, works.isBridge(11));
        Check.due("the other one", false, works.isBridge(0));
    }

    private static void bridges(java.util.function.ToIntFunction<FilterWaterworks> count) {
        for (int tanks = 0; tanks <= 8; tanks++) {
            Check.due(tanks + " tanks alone", 0, count.applyAsInt(Edges.tanks(tanks)));
            Check.due(tanks + " tanks in a row", Math.max(0, tanks - 1), count.applyAsInt(Edges.row(tanks, 10)));
        }
        FilterWaterworks works = Edges.pipes(12);
        Check.due("12 closed pipes", 0, count.applyAsInt(works));
        works.setValve(11, 1);
        Check.due("the last one is open", 1, count.applyAsInt(works));
        works.setValve(0, 4);
        Check.due("the first one too", 0, count.applyAsInt(works));
        Check.due("dirt 19", 1, count.applyAsInt(Edges.dirty(19)));
        Check.due("dirt 20", 0, count.applyAsInt(Edges.dirty(20)));
        FilterWaterworks rings = Edges.row(8, 10);
        int back = rings.addPipe(2, 0, 0);
        int forth = rings.addPipe(5, 7, 0);
        Check.due("the pipes that close the rings are closed", 7, count.applyAsInt(rings));
        rings.setValve(back, 1);
        Check.due("one ring", 5, count.applyAsInt(rings));
        rings.setValve(forth, 1);
        Check.due("two rings", 3, count.applyAsInt(rings));
        rings.setValve(rings.addPipe(3, 4, 0), 1);
        Check.due("and two pipes between them", 2, count.applyAsInt(rings));
    }

    @Sentence(promise = 33, value = "Returns the number of bridges, found by one walk that numbers the tanks and notes the"
            + " lowest number that each one can reach.")
    static void promise33NoneToSeven() {
        bridges(FilterWaterworks::bridgeCount);
    }

    @Sentence(promise = 34, value = "Returns the same number, found by leaving out each pipe.")
    static void promise34NoneToSeven() {
        bridges(FilterWaterworks::bridgeCountByLeavingOut);
    }

    // ---- widths ----

    private static void widthOfTheSameTank(Edges.PairCall width) {
        for (int tanks = 1; tanks <= 8; tanks++) {
            Check.due("without pipes", 4, width.of(Edges.tanks(tanks), tanks - 1, tanks - 1));
            Check.due("with narrow pipes", 4, width.of(Edges.row(tanks, 10), 0, 0));
        }
    }

    private static void widthOfUnconnectedTanks(Edges.PairCall width) {
        Check.due("no pipe", 0, width.of(Edges.tanks(8), 0, 7));
        Check.due("a closed pipe", 0, width.of(Edges.pipes(1), 0, 1));
        Check.due("a clogged pipe", 0, width.of(Edges.dirty(20), 0, 1));
        Check.due("an almost clogged pipe", 1, width.of(Edges.dirty(19), 1, 0));
    }

    private static void widthOfEachSetting(Edges.PairCall width) {
        for (int one = 0; one <= 4; one++) {
            for (int other = 0; other <= 4; other++) {
                FilterWaterworks row = Edges.row(3, 10);
                row.setValve(0, one);
                row.setValve(1, other);
                Check.due("in a row", Math.min(one, other), width.of(row, 0, 2));
                FilterWaterworks beside = Edges.pipes(2);
                beside.setValve(0, one);
                beside.setValve(1, other);
                Check.due("beside each other", Math.max(one, other), width.of(beside, 1, 0));
            }
        }
    }

    private static final String WIDTH = "Returns the width, 4 if both tanks are the same, 0 if they are not connected.";

    @Sentence(promise = 35, value = WIDTH)
    static void promise35TheSameTank() {
        widthOfTheSameTank(FilterWaterworks::width);
    }

    @Sentence(promise = 35, value = WIDTH)
    static void promise35NotConnected() {
        widthOfUnconnectedTanks(FilterWaterworks::width);
    }

    @Sentence(promise = 35, value = "Returns the width of the widest connection of two tanks, found by going on to the tank"
            + " that is reached most widely.")
    static void promise35EachSetting() {
        widthOfEachSetting(FilterWaterworks::width);
    }

    @Sentence(promise = 35, value = Edges.NO_TANKS)
    static void promise35NoTank() {
        Edges.needsTanks(FilterWaterworks::width);
    }

    private static final String SAME_WIDTH = "Returns the same width, found by trying the settings from 4 down.";

    @Sentence(promise = 36, value = SAME_WIDTH)
    static void promise36TheSameTank() {
        widthOfTheSameTank(FilterWaterworks::widthBySettings);
    }

    @Sentence(promise = 36, value = SAME_WIDTH)
    static void promise36NotConnected() {
        widthOfUnconnectedTanks(FilterWaterworks::widthBySettings);
    }

    @Sentence(promise = 36, value = SAME_WIDTH)
    static void promise36EachSetting() {
        widthOfEachSetting(FilterWaterworks::widthBySettings);
    }

    @Sentence(promise = 36, value = Edges.NO_TANKS)
    static void promise36NoTank() {
        Edges.needsTanks(FilterWaterworks::widthBySettings);
    }

    // ---- the cleanest way ----

    private static final String NOT_CONNECTED = "Throws `NoSuchElementException` if the tanks are not connected";

    private static void cleanestNeedsAConnection(Edges.PairCall cleanest) {
        for (int tanks = 2; tanks <= 8; tanks++) {
            FilterWaterworks alone = Edges.tanks(tanks);
            int last = tanks - 1;
            Check.thrown("no pipe", Edges.ELEMENT, () -> cleanest.of(alone, 0, last));
            Check.thrown("no pipe, back", Edges.ELEMENT, () -> cleanest.of(alone, last, 0));
        }
        Check.thrown("a closed pipe", Edges.ELEMENT, () -> cleanest.of(Edges.pair(9, 1, 1, 0), 0, 1));
        Check.due("the least setting", 0, cleanest.of(Edges.pair(9, 1, 1, 1), 0, 1));
        Check.due("dirt 19", 0, cleanest.of(Edges.dirty(19), 0, 1));
        Check.thrown("dirt 20", Edges.ELEMENT, () -> cleanest.of(Edges.dirty(20), 0, 1));
        Edges.refused("not connected", Edges.ELEMENT, () -> Edges.busy(4, 2), works -> cleanest.of(works, 3, 0));
    }

    private static void cleanestToTheSameTank(Edges.PairCall cleanest) {
        for (int letters = 0; letters <= 8; letters++) {
            int set = (1 << letters) - 1;
            Check.due("closed", letters, cleanest.of(Edges.pair(9, set, 255, 0), 0, 0));
            Check.due("through a filter and back", 0, cleanest.of(Edges.pair(9, set, 255, 1), 0, 0));
            Check.due("through no filter", letters, cleanest.of(Edges.pair(9, set, 0, 1), 0, 0));
        }
        Check.due("alone", 1, cleanest.of(Edges.tanks(8), 7, 7));
    }

    /** The longest search: all 256 sets come to a tank, by eight loops that each hold one letter back. */
    private static void cleanestOfAllSets(Edges.PairCall cleanest) {
        FilterWaterworks works = Edges.tanks(2);
        works.pour(0, 1, 255);
        for (int letter = 0; letter < 8; letter++) {
            works.setValve(works.addPipe(0, 1, 1 << letter), 1);
            Check.due(letter + 1 + " filters", 7 - letter, cleanest.of(works, 0, 1));
            Check.due(letter + 1 + " filters and back", 7 - letter, cleanest.of(works, 0, 0));
        }
        for (int letter = 0; letter < 7; letter++) {
            works.setValve(letter, 0);
            Check.due("without " + (letter + 1) + " of them", letter + 1, cleanest.of(works, 0, 1));
        }
        works.setValve(7, 0);
        Check.due("without all of them", 8, cleanest.of(works, 0, 0));
    }

    private static final String TO = "`to`: the index of the other tank, which may be the same";

    @Sentence(promise = 37, value = TO)
    static void promise37TheSameTank() {
        cleanestToTheSameTank(FilterWaterworks::cleanest);
    }

    @Sentence(promise = 37, value = "Returns how many impurities are left on the cleanest way from a tank to another one,"
            + " found by a search through tanks and sets of impurities.")
    static void promise37AllSets() {
        cleanestOfAllSets(FilterWaterworks::cleanest);
    }

    @Sentence(promise = 37, value = Edges.NO_TANKS)
    static void promise37NoTank() {
        Edges.needsTanks(FilterWaterworks::cleanest);
    }

    @Sentence(promise = 37, value = NOT_CONNECTED)
    static void promise37NotConnected() {
        cleanestNeedsAConnection(FilterWaterworks::cleanest);
    }

    private static final String PASSES = "Returns the same number, found by going over all pipes and sets until nothing new"
            + " is reached.";

    @Sentence(promise = 38, value = PASSES)
    static void promise38TheSameTank() {
        cleanestToTheSameTank(FilterWaterworks::cleanestByPasses);
    }

    @Sentence(promise = 38, value = PASSES)
    static void promise38AllSets() {
        cleanestOfAllSets(FilterWaterworks::cleanestByPasses);
    }

    /** Pipes in the order in which each pass reaches only one tank more, and a filter at the far end. */
    @Sentence(promise = 38, value = PASSES)
    static void promise38UntilNothingNewIsReached() {
        for (int farEnd = 0; farEnd <= 1; farEnd++) {
            for (int start = 0; start <= 7; start += 7) {
                FilterWaterworks works = Edges.tanks(8);
                works.pour(start, 1, 255);
                for (int step = 6; step >= 0; step--) {
                    int near = start == 0 ? step : 7 - step;
                    int far = start == 0 ? step + 1 : 6 - step;
                    int mesh = step == 6 ? 0b1111 : 0;
                    int pipe = farEnd == 0 ? works.addPipe(near, far, mesh) : works.addPipe(far, near, mesh);
                    works.setValve(pipe, 1);
                }
                Check.due("to the last tank", 4, works.cleanestByPasses(start, 7 - start));
                Check.due("and back", 4, works.cleanestByPasses(start, start));
            }
        }
    }

    @Sentence(promise = 38, value = Edges.NO_TANKS)
    static void promise38NoTank() {
        Edges.needsTanks(FilterWaterworks::cleanestByPasses);
    }

    @Sentence(promise = 38, value = NOT_CONNECTED)
    static void promise38NotConnected() {
        cleanestNeedsAConnection(FilterWaterworks::cleanestByPasses);
    }

    // ---- still water ----

    @Sentence(promise = 39, value = "Returns the number of minutes, 0 if it is still now.")
    static void promise39StillNow() {
        Check.due("nothing there", 0, new FilterWaterworks().minutesUntilStill());
        FilterWaterworks works = Edges.pair(2, 0, 0, 1);
        Check.due("1 minute", 1, works.minutesUntilStill());
        works.advance(1);
        Check.due("now", 0, works.minutesUntilStill());
        works.advance(60);
        Check.due("and later", 0, works.minutesUntilStill());
    }

    @Sentence(promise = 39, value = "Predicts after how many minutes the waterworks is still for the first time.")
    static void promise39FirstTime() {
        for (int litres = 0; litres <= 40; litres++) {
            FilterWaterworks works = litres == 0 ? Edges.pipes(0) : Edges.pair(litres, 0, 0, 1);
            int minutes = 0;
            for (int left = litres; left / 2 > 0; left -= 2 * Math.min(5, left / 2)) {
                minutes++;
            }
            Check.due(litres + " litres", minutes, works.minutesUntilStill());
        }
    }

    /** The middle one of three tanks leaks 5 litres a minute on their way to the last one, and is filled up by the first. */
    private static FilterWaterworks leaking(int litres) {
        FilterWaterworks works = Edges.row(3, 999);
        works.setLeak(1, 9);
        works.pour(0, litres, 0);
        works.pour(1, 999, 0);
        return works;
    }

    private static final String AFTER_300 = "Throws `IllegalStateException` if it is not still after 300 minutes";

    @Sentence(promise = 39, value = AFTER_300)
    static void promise39After300Minutes() {
        Check.due("299", 299, leaking(478).minutesUntilStill());
        Check.due("300", 300, leaking(483).minutesUntilStill());
        FilterWaterworks longer = leaking(484);
        Check.thrown("301", Edges.STATE, longer::minutesUntilStill);
        longer.advance(1);
        Check.due("a minute later", 300, longer.minutesUntilStill());
        longer.undo();
        Check.thrown("undone", Edges.STATE, longer::minutesUntilStill);
        Check.thrown("far from it", Edges.STATE, () -> leaking(999).minutesUntilStill());
    }

    /** What is predicted is what comes: in the minute 300 something flows still, then no more. */
    @Sentence(promise = 39, value = AFTER_300)
    static void promise39What300MinutesBring() {
        FilterWaterworks works = leaking(483);
        for (int minutes = 0; minutes < 240; minutes += 60) {
            works.advance(60);
        }
        works.advance(59);
        int before = works.litresThrough(0) + works.litresThrough(1);
        works.advance(1);
        Check.due("minute 300", true, works.litresThrough(0) + works.litresThrough(1) > before);
        before = works.litresThrough(0) + works.litresThrough(1);
        works.advance(1);
        Check.due("minute 301", before, works.litresThrough(0) + works.litresThrough(1));
    }

    @Sentence(promise = 39, value = AFTER_300)
    static void promise39RefusedChangesNothing() {
        Edges.refused("not still", Edges.STATE, () -> leaking(484), FilterWaterworks::minutesUntilStill);
    }
}
