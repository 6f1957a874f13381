import java.util.NoSuchElementException;

/** Promises 18 to 28. */
final class PipesTest {
    private static final Class<IndexOutOfBoundsException> INDEX = IndexOutOfBoundsException.class;
    private static final Class<NoSuchElementException> ELEMENT = NoSuchElementException.class;

    private PipesTest() {
    }

    private interface Call {
        Object of(FilterWaterworks works, int pipe);
    }

    private static FilterWaterworks works() {
        FilterWaterworks works = new FilterWaterworks();
        for (int tank = 0; tank < 3; tank++) {
            works.addTank(100);
        }
        works.addPipe(2, 1, 5);
        works.addPipe(0, 1, 255);
        works.setValve(1, 3);
        works.setLeak(1, 7);
        works.pour(0, 90, 31);
        works.advance(2);
        return works;
    }

    private static void needsPipe(Call call) {
        for (int pipe : new int[] {-1, 2, 12, Integer.MAX_VALUE, Integer.MIN_VALUE}) {
            Check.thrown("pipe " + pipe, INDEX, () -> call.of(works(), pipe));
        }
        Check.thrown("of none", INDEX, () -> call.of(new FilterWaterworks(), 0));
    }

    static void promise18() {
        Check.due("none", 0, new FilterWaterworks().pipeCount());
        Check.due("two", 2, works().pipeCount());
    }

    static void promise19() {
        Check.due("first", 2, works().firstOf(0));
        Check.due("second", 0, works().firstOf(1));
        needsPipe(FilterWaterworks::firstOf);
    }

    static void promise20() {
        Check.due("first", 1, works().secondOf(0));
        Check.due("second", 1, works().secondOf(1));
        needsPipe(FilterWaterworks::secondOf);
    }

    static void promise21() {
        Check.due("first", 0, works().valve(0));
        Check.due("second", 3, works().valve(1));
        needsPipe(FilterWaterworks::valve);
    }

    static void promise22() {
        Check.due("first", 0, works().leak(0));
        Check.due("second", 7, works().leak(1));
        needsPipe(FilterWaterworks::leak);
    }

    static void promise23() {
        Check.due("first", 5, works().mesh(0));
        Check.due("second", 255, works().mesh(1));
        needsPipe(FilterWaterworks::mesh);
    }

    static void promise24() {
        Check.due("first", 0, works().dirt(0));
        Check.due("second", 10, works().dirt(1));
        needsPipe(FilterWaterworks::dirt);
    }

    static void promise25() {
        FilterWaterworks works = works();
        Check.due("closed valve", false, works.isOpen(0));
        Check.due("open", true, works.isOpen(1));
        works.setValve(0, 1);
        Check.due("setting 1, no water", true, works.isOpen(0));
        works.pour(0, 30, 0);
        works.advance(2);
        Check.due("clogged", 20, works.dirt(1));
        Check.due("clogged is not open", false, works.isOpen(1));
        works.cleanFilter(1);
        Check.due("cleaned", true, works.isOpen(1));
        needsPipe(FilterWaterworks::isOpen);
    }

    static void promise26() {
        FilterWaterworks works = new FilterWaterworks();
        works.addTank(100);
        works.addTank(10);
        works.addPipe(0, 1, 1);
        works.addPipe(1, 0, 0);
        works.pour(0, 30, 1);
        Check.due("closed", 0, works.flow(0));
        works.setValve(0, 1);
        Check.due("a step", 5, works.flow(0));
        works.setValve(0, 4);
        Check.due("room", 10, works.flow(0));
        works.setValve(1, 2);
        Check.due("leaves the second tank", -10, works.flow(1));
        works.pour(1, 8, 0);
        Check.due("what still fits", -2, works.flow(1));
        works.draw(0, 20);
        Check.due("half of 2", 1, works.flow(0));
        works.draw(0, 1);
        Check.due("half of 1", 0, works.flow(0));
        works.draw(0, 5);
        Check.due("from the second tank", -2, works.flow(0));
        Check.due("from the first tank", 2, works.flow(1));
        Check.due("nothing has changed", 0, works.litresThrough(0));
        needsPipe(FilterWaterworks::flow);
    }

    static void promise26Clogged() {
        FilterWaterworks works = ChangesTest.pair(200, 255, 255, 1);
        works.advance(3);
        Check.due("clogged", 0, works.flow(0));
        works.cleanFilter(0);
        Check.due("cleaned", 5, works.flow(0));
    }

    static void promise27() {
        FilterWaterworks works = works();
        Check.due("first", 0, works.litresThrough(0));
        Check.due("the leak counts too", 30, works.litresThrough(1));
        works.draw(0, 60);
        works.advance(1);
        Check.due("in whatever direction", 38, works.litresThrough(1));
        works.cleanFilter(1);
        Check.due("cleaning changes nothing", 38, works.litresThrough(1));
        needsPipe(FilterWaterworks::litresThrough);
    }

    static void promise28() {
        FilterWaterworks works = new FilterWaterworks();
        Check.thrown("none", ELEMENT, () -> works.pipeByDirt(0));
        works.addTank(999);
        works.addTank(999);
        works.pour(0, 999, 3);
        for (int mesh : new int[] {0, 1, 1, 0, 3, 4}) {
            works.addPipe(0, 1, mesh);
        }
        int[] settings = {1, 1, 2, 0, 1, 1};
        for (int pipe = 0; pipe < 6; pipe++) {
            works.setValve(pipe, settings[pipe]);
        }
        works.advance(1);
        int[] due = {4, 2, 1, 0, 5, 3};
        for (int rank = 0; rank < 6; rank++) {
            Check.due("rank " + rank, due[rank], works.pipeByDirt(rank));
        }
        Check.thrown("behind", ELEMENT, () -> works.pipeByDirt(6));
        Check.thrown("before", ELEMENT, () -> works.pipeByDirt(-1));
    }
}
