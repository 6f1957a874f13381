import java.util.NoSuchElementException;

/** Promises 29 to 39. */
final class ConnectionsTest {
    private static final Class<IndexOutOfBoundsException> INDEX = IndexOutOfBoundsException.class;

    private ConnectionsTest() {
    }

    private interface Call {
        Object of(FilterWaterworks works, int first, int second);
    }

    /** Seven tanks: a ring of 0, 1 and 2, from it to 3, from there by two pipes to 4; 5 by a closed pipe; 6 alone. */
    private static FilterWaterworks works() {
        FilterWaterworks works = new FilterWaterworks();
        for (int tank = 0; tank < 7; tank++) {
            works.addTank(500);
        }
        int[][] pipes = {{0, 1, 4}, {1, 2, 3}, {2, 0, 1}, {3, 2, 2}, {3, 4, 1}, {4, 3, 2}, {4, 5, 0}};
        for (int[] pipe : pipes) {
            int index = works.addPipe(pipe[0], pipe[1], 0);
            works.setValve(index, pipe[2]);
        }
        return works;
    }

    private static void needsTanks(Call call) {
        for (int wrong : new int[] {-1, 7, Integer.MAX_VALUE, Integer.MIN_VALUE}) {
            Check.thrown("first " + wrong, INDEX, () -> call.of(works(), wrong, 0));
            Check.thrown("second " + wrong, INDEX, () -> call.of(works(), 0, wrong));
            Check.thrown("both " + wrong, INDEX, () -> call.of(works(), wrong, wrong));
        }
    }

    /** Clogs the first pipe of a new pair that stands beside what the works have. */
    private static FilterWaterworks clogged() {
        FilterWaterworks works = ChangesTest.pair(200, 255, 255, 1);
        works.advance(3);
        return works;
    }

    static void promise29() {
        FilterWaterworks works = works();
        for (int first = 0; first < 7; first++) {
            for (int second = 0; second < 7; second++) {
                boolean due = first == second || first < 5 && second < 5;
                Check.due(first + " and " + second, due, works.areConnected(first, second));
            }
        }
        Check.due("by the least setting of one pipe", true, ChangesTest.pair(9, 0, 0, 1).areConnected(1, 0));
        Check.due("clogged", false, clogged().areConnected(0, 1));
        needsTanks(FilterWaterworks::areConnected);
    }

    private static void groups(java.util.function.ToIntFunction<FilterWaterworks> count) {
        Check.due("none", 0, count.applyAsInt(new FilterWaterworks()));
        FilterWaterworks works = works();
        Check.due("three", 3, count.applyAsInt(works));
        works.setValve(3, 0);
        Check.due("four", 4, count.applyAsInt(works));
        works.setValve(6, 1);
        Check.due("three again", 3, count.applyAsInt(works));
        Check.due("clogged", 2, count.applyAsInt(clogged()));
    }

    static void promise30() {
        groups(FilterWaterworks::groupCount);
    }

    static void promise31() {
        groups(FilterWaterworks::groupCountByUnions);
    }

    static void promise32() {
        FilterWaterworks works = works();
        for (int pipe = 0; pipe < 7; pipe++) {
            Check.due("pipe " + pipe, pipe == 3, works.isBridge(pipe));
        }
        works.setValve(4, 0);
        Check.due("the pipe beside it is closed", true, works.isBridge(5));
        Check.due("closed", false, works.isBridge(4));
        Check.due("clogged", false, clogged().isBridge(0));
        Check.thrown("no pipe", INDEX, () -> works.isBridge(7));
        Check.thrown("negative", INDEX, () -> works.isBridge(-1));
    }

    private static void bridges(java.util.function.ToIntFunction<FilterWaterworks> count) {
        Check.due("none", 0, count.applyAsInt(new FilterWaterworks()));
        FilterWaterworks works = works();
        Check.due("one", 1, count.applyAsInt(works));
        works.setValve(4, 0);
        Check.due("two", 2, count.applyAsInt(works));
        works.setValve(6, 4);
        Check.due("three", 3, count.applyAsInt(works));
        works.setValve(1, 0);
        Check.due("the ring is cut", 5, count.applyAsInt(works));
        Check.due("clogged", 0, count.applyAsInt(clogged()));
    }

    private static FilterWaterworks rowOfEight(int capacity) {
        FilterWaterworks works = new FilterWaterworks();
        for (int tank = 0; tank < 8; tank++) {
            works.addTank(capacity);
        }
        for (int tank = 0; tank < 7; tank++) {
            works.setValve(works.addPipe(tank, tank + 1, 0), 1);
        }
        return works;
    }

    static void promise33() {
        bridges(FilterWaterworks::bridgeCount);
        Check.due("the longest row", 7, rowOfEight(10).bridgeCount());
    }

    static void promise34() {
        bridges(FilterWaterworks::bridgeCountByLeavingOut);
        Check.due("the longest row", 7, rowOfEight(10).bridgeCountByLeavingOut());
    }

    private static void widths(Call width) {
        FilterWaterworks works = works();
        Check.due("the same", 4, width.of(works, 6, 6));
        Check.due("one pipe", 4, width.of(works, 0, 1));
        Check.due("round the narrow pipe", 3, width.of(works, 0, 2));
        Check.due("and back", 3, width.of(works, 2, 0));
        Check.due("far", 2, width.of(works, 1, 4));
        Check.due("closed", 0, width.of(works, 4, 5));
        Check.due("alone", 0, width.of(works, 6, 0));
        works.setValve(1, 0);
        Check.due("narrow now", 1, width.of(works, 4, 1));
        Check.due("clogged", 0, width.of(clogged(), 0, 1));
        needsTanks(width);
    }

    static void promise35() {
        widths(FilterWaterworks::width);
    }

    static void promise36() {
        widths(FilterWaterworks::widthBySettings);
    }

    private static void cleanestWays(Call cleanest) {
        FilterWaterworks works = works();
        works.pour(0, 100, 0b1110);
        Check.due("no filter holds back", 3, cleanest.of(works, 0, 4));
        Check.due("an empty tank", 0, cleanest.of(works, 4, 0));
        Check.thrown("closed", NoSuchElementException.class, () -> cleanest.of(works, 0, 5));
        Check.thrown("alone", NoSuchElementException.class, () -> cleanest.of(works, 6, 0));
        Check.due("alone to itself", 0, cleanest.of(works, 6, 6));
        int detour = works.addPipe(4, 5, 0b0110);
        Check.due("the filter is closed", 3, cleanest.of(works, 0, 0));
        works.setValve(detour, 1);
        Check.due("by a detour and back", 1, cleanest.of(works, 0, 0));
        int more = works.addPipe(2, 1, 0b1000);
        works.setValve(more, 1);
        Check.due("two detours", 0, cleanest.of(works, 0, 3));
        Check.due("nothing has changed", 14, works.impurities(0));
        works.setValve(more, 0);
        works.setValve(detour, 0);
        Check.due("no detour any more", 3, cleanest.of(works, 0, 3));
        FilterWaterworks clogged = clogged();
        Check.thrown("clogged", NoSuchElementException.class, () -> cleanest.of(clogged, 0, 1));
        Check.due("clogged, to itself", 8, cleanest.of(clogged, 0, 0));
        clogged.cleanFilter(0);
        Check.due("cleaned", 0, cleanest.of(clogged, 0, 0));
        needsTanks(cleanest);
    }

    /** A ring of eight tanks with a letter to each pipe, so that most sets come to most tanks. */
    private static void cleanestOfMany(Call cleanest) {
        FilterWaterworks works = new FilterWaterworks();
        for (int tank = 0; tank < 8; tank++) {
            works.addTank(100);
        }
        for (int pipe = 0; pipe < 12; pipe++) {
            works.setValve(works.addPipe(pipe % 8, (pipe + 1) % 8, pipe < 8 ? 1 << pipe : 0), 1);
        }
        works.pour(0, 100, 255);
        for (int tank = 0; tank < 8; tank++) {
            Check.due("round the ring to " + tank, 0, cleanest.of(works, 0, tank));
        }
        works.setValve(7, 0);
        works.setValve(3, 0);
        Check.due("the ring is open, two letters stay", 2, cleanest.of(works, 0, 5));
    }

    static void promise37() {
        cleanestWays(FilterWaterworks::cleanest);
        cleanestOfMany(FilterWaterworks::cleanest);
    }

    static void promise38() {
        cleanestWays(FilterWaterworks::cleanestByPasses);
        cleanestOfMany(FilterWaterworks::cleanestByPasses);
    }

    static void promise39() {
        Check.due("nothing there", 0, new FilterWaterworks().minutesUntilStill());
        FilterWaterworks works = ChangesTest.pair(100, 0, 0, 1);
        Check.due("10 minutes of 5 litres", 10, works.minutesUntilStill());
        Check.due("only predicted", 0, works.time());
        Check.due("nothing has flown", 100, works.content(0));
        works.advance(9);
        Check.due("one is left", 1, works.minutesUntilStill());
        works.advance(1);
        Check.due("still", 0, works.minutesUntilStill());
        works.pour(0, 1, 0);
        Check.due("a difference of 1", 0, works.minutesUntilStill());
        Check.due("clogged after 3 minutes", 3, ChangesTest.pair(200, 255, 255, 1).minutesUntilStill());
    }

    /** Eight great tanks in a row with full ones at the one end need more than 300 minutes. */
    static void promise39TooLong() {
        FilterWaterworks works = rowOfEight(999);
        for (int tank = 0; tank < 4; tank++) {
            works.pour(tank, 999, 0);
        }
        Check.thrown("long", IllegalStateException.class, works::minutesUntilStill);
        int passed = 0;
        while (Check.outcome(works::minutesUntilStill) instanceof String && passed < 600) {
            works.advance(1);
            passed++;
        }
        Check.due("the first time that it can be told", 300, works.minutesUntilStill());
        Check.due("it took some minutes", true, passed > 0);
        works.advance(60);
        Check.due("60 minutes later", 240, works.minutesUntilStill());
    }
}
