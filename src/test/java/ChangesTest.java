/** Promises 1 to 9. */
final class ChangesTest {
    private static final Class<IndexOutOfBoundsException> INDEX = IndexOutOfBoundsException.class;
    private static final Class<IllegalArgumentException> ARGUMENT = IllegalArgumentException.class;
    private static final Class<IllegalStateException> STATE = IllegalStateException.class;
    private static final Class<UnsupportedOperationException> UNSUPPORTED = UnsupportedOperationException.class;

    private ChangesTest() {
    }

    /** Two tanks, the first one with water and impurities, and a pipe of a setting between them. */
    static FilterWaterworks pair(int litres, int impurities, int mesh, int setting) {
        FilterWaterworks works = new FilterWaterworks();
        works.addTank(200);
        works.addTank(200);
        works.addPipe(0, 1, mesh);
        works.pour(0, litres, impurities);
        works.setValve(0, setting);
        return works;
    }

    static void promise1() {
        FilterWaterworks works = new FilterWaterworks();
        Check.due("tanks", 0, works.tankCount());
        Check.due("pipes", 0, works.pipeCount());
        Check.due("time", 0, works.time());
        Check.due("poured", 0, works.pouredTotal());
        Check.due("drawn", 0, works.drawnTotal());
        Check.due("spilled", 0, works.spilledTotal());
        Check.thrown("tank 0", INDEX, () -> works.content(0));
        Check.thrown("pipe 0", INDEX, () -> works.dirt(0));
    }

    static void promise2() {
        FilterWaterworks works = new FilterWaterworks();
        Check.thrown("too small", ARGUMENT, () -> works.addTank(9));
        Check.thrown("too great", ARGUMENT, () -> works.addTank(1000));
        Check.thrown("negative", ARGUMENT, () -> works.addTank(Integer.MIN_VALUE));
        Check.due("first", 0, works.addTank(10));
        Check.due("second", 1, works.addTank(999));
        Check.due("empty", 0, works.content(1));
        Check.due("pure", 0, works.impurities(1));
        for (int tank = 2; tank < 8; tank++) {
            Check.due("next", tank, works.addTank(50 + tank));
        }
        Check.thrown("ninth", STATE, () -> works.addTank(50));
        Check.thrown("argument first", ARGUMENT, () -> works.addTank(9));
        Check.due("count", 8, works.tankCount());
        Check.due("last", 57, works.capacity(7));
    }

    static void promise3() {
        FilterWaterworks works = new FilterWaterworks();
        Check.thrown("no tanks", INDEX, () -> works.addPipe(0, 1, 0));
        works.addTank(100);
        works.addTank(100);
        Check.thrown("first", INDEX, () -> works.addPipe(2, 1, 0));
        Check.thrown("second", INDEX, () -> works.addPipe(0, 2, 0));
        Check.thrown("negative first", INDEX, () -> works.addPipe(-1, 1, 0));
        Check.thrown("negative second", INDEX, () -> works.addPipe(1, -1, 0));
        Check.thrown("the same", ARGUMENT, () -> works.addPipe(1, 1, 0));
        Check.thrown("the same that is none", INDEX, () -> works.addPipe(2, 2, 256));
        Check.thrown("mesh too great", ARGUMENT, () -> works.addPipe(0, 1, 256));
        Check.thrown("mesh negative", ARGUMENT, () -> works.addPipe(0, 1, -1));
        for (int pipe = 0; pipe < 12; pipe++) {
            Check.due("pipe", pipe, works.addPipe(pipe % 2, 1 - pipe % 2, pipe == 3 ? 255 : 0));
        }
        Check.thrown("thirteenth", STATE, () -> works.addPipe(0, 1, 0));
        Check.thrown("argument first", ARGUMENT, () -> works.addPipe(0, 0, 0));
        Check.thrown("index first", INDEX, () -> works.addPipe(0, 8, 0));
        Check.due("count", 12, works.pipeCount());
        Check.due("valve initially", 0, works.valve(11));
        Check.due("leak initially", 0, works.leak(11));
        Check.due("dirt initially", 0, works.dirt(11));
        Check.due("litres initially", 0, works.litresThrough(11));
    }

    static void promise4() {
        FilterWaterworks works = new FilterWaterworks();
        works.addTank(100);
        Check.thrown("no tank", INDEX, () -> works.pour(1, 0, 256));
        Check.thrown("negative tank", INDEX, () -> works.pour(-1, 1, 0));
        Check.thrown("no litres", ARGUMENT, () -> works.pour(0, 0, 0));
        Check.thrown("many litres", ARGUMENT, () -> works.pour(0, 1000, 0));
        Check.thrown("greatest number", ARGUMENT, () -> works.pour(0, Integer.MAX_VALUE, 0));
        Check.thrown("negative set", ARGUMENT, () -> works.pour(0, 1, -1));
        Check.thrown("great set before the capacity", ARGUMENT, () -> works.pour(0, 101, 256));
        Check.thrown("over the capacity", UNSUPPORTED, () -> works.pour(0, 101, 255));
        Check.due("nothing changed", 0, works.impurities(0));
        Check.due("first", 40, works.pour(0, 40, 5));
        Check.due("until full", 100, works.pour(0, 60, 6));
        Check.due("both sets", 7, works.impurities(0));
        Check.thrown("full", UNSUPPORTED, () -> works.pour(0, 1, 0));
        Check.due("total", 100, works.pouredTotal());
    }

    static void promise5() {
        FilterWaterworks works = new FilterWaterworks();
        works.addTank(100);
        works.pour(0, 50, 9);
        Check.thrown("no tank", INDEX, () -> works.draw(1, 0));
        Check.thrown("negative tank", INDEX, () -> works.draw(-1, 1));
        Check.thrown("no litres", ARGUMENT, () -> works.draw(0, 0));
        Check.thrown("many litres", ARGUMENT, () -> works.draw(0, 1000));
        Check.thrown("more than there are", UNSUPPORTED, () -> works.draw(0, 51));
        Check.due("some", 1, works.draw(0, 49));
        Check.due("impurities stay", 9, works.impurities(0));
        Check.due("all", 0, works.draw(0, 1));
        Check.due("an empty tank has none", 0, works.impurities(0));
        Check.due("total", 50, works.drawnTotal());
        Check.thrown("empty", UNSUPPORTED, () -> works.draw(0, 1));
    }

    static void promise6() {
        FilterWaterworks works = pair(100, 0, 0, 0);
        Check.thrown("no pipe", INDEX, () -> works.setValve(1, 5));
        Check.thrown("negative pipe", INDEX, () -> works.setValve(-1, 1));
        Check.thrown("too great", ARGUMENT, () -> works.setValve(0, 5));
        Check.thrown("negative", ARGUMENT, () -> works.setValve(0, -1));
        Check.due("before", 0, works.setValve(0, 4));
        Check.due("then", 4, works.setValve(0, 2));
        Check.due("now", 2, works.valve(0));
    }

    static void promise7() {
        FilterWaterworks works = pair(100, 0, 0, 0);
        Check.thrown("no pipe", INDEX, () -> works.setLeak(1, 10));
        Check.thrown("negative pipe", INDEX, () -> works.setLeak(-1, 1));
        Check.thrown("too great", ARGUMENT, () -> works.setLeak(0, 10));
        Check.thrown("negative", ARGUMENT, () -> works.setLeak(0, -1));
        Check.due("before", 0, works.setLeak(0, 9));
        Check.due("then", 9, works.setLeak(0, 1));
        Check.due("now", 1, works.leak(0));
    }

    static void promise8() {
        FilterWaterworks works = pair(200, 15, 7, 1);
        works.advance(2);
        Check.thrown("no pipe", INDEX, () -> works.cleanFilter(1));
        Check.thrown("negative pipe", INDEX, () -> works.cleanFilter(-1));
        Check.due("before", 6, works.cleanFilter(0));
        Check.due("clean", 0, works.dirt(0));
        Check.due("again", 0, works.cleanFilter(0));
    }

    static void promise9Arguments() {
        FilterWaterworks works = pair(100, 0, 0, 1);
        Check.thrown("none", ARGUMENT, () -> works.advance(0));
        Check.thrown("too many", ARGUMENT, () -> works.advance(61));
        Check.due("nothing passed", 0, works.time());
        works.advance(1);
        works.advance(60);
        Check.due("time", 61, works.time());
    }

    static void promise9HalfOfTheDifference() {
        FilterWaterworks works = pair(37, 0, 0, 4);
        works.advance(1);
        Check.due("18 litres", "19/200 18/200", contents(works));
        works.advance(1);
        Check.due("a difference of 1 does nothing", 19, works.content(0));
    }

    static void promise9StepsOfTheValve() {
        for (int setting = 0; setting <= 4; setting++) {
            FilterWaterworks works = pair(200, 0, 0, setting);
            works.advance(1);
            Check.due("setting " + setting, 5 * setting, works.content(1));
        }
    }

    static void promise9RoomOfTheOtherTank() {
        FilterWaterworks works = new FilterWaterworks();
        works.addTank(10);
        works.addTank(300);
        works.addPipe(0, 1, 0);
        works.setValve(0, 3);
        works.setLeak(0, 9);
        works.pour(1, 300, 1);
        Check.due("room for 10 before the leak", 9, works.advance(1));
        Check.due("1 came", 1, works.content(0));
        Check.due("10 left", 290, works.content(1));
    }

    static void promise9Leak() {
        FilterWaterworks works = pair(6, 3, 1, 4);
        works.setLeak(0, 3);
        Check.due("all of it", 3, works.advance(1));
        Check.due("nothing came", "3/200 0/200", contents(works));
        Check.due("no impurity came", 0, works.impurities(1));
        Check.due("but dirt", 1, works.dirt(0));
        Check.due("litres", 3, works.litresThrough(0));
        Check.due("fewer than the rate", 1, works.advance(1));
        Check.due("spilled", 4, works.spilledTotal());
        Check.due("the answer is of these minutes alone", 1, works.advance(5));
        Check.due("a difference of 1", 0, works.advance(5));
    }

    static void promise9Impurities() {
        FilterWaterworks works = pair(100, 0b1011, 0b0110, 2);
        works.pour(1, 1, 0b10000);
        works.advance(1);
        Check.due("not held back ones come", 0b11001, works.impurities(1));
        Check.due("the tank keeps its own", 0b1011, works.impurities(0));
        Check.due("dirt by the ones that are held back", 1, works.dirt(0));
    }

    static void promise9Clogged() {
        FilterWaterworks works = pair(200, 255, 127, 1);
        works.advance(2);
        Check.due("dirt", 14, works.dirt(0));
        works.advance(1);
        Check.due("not beyond 20", 20, works.dirt(0));
        works.advance(1);
        Check.due("nothing flows any more", 15, works.content(1));
    }

    static void promise9OrderOfThePipes() {
        FilterWaterworks works = new FilterWaterworks();
        for (int tank = 0; tank < 3; tank++) {
            works.addTank(100);
        }
        works.addPipe(1, 2, 0);
        works.addPipe(0, 1, 0);
        works.pour(0, 80, 1);
        works.setValve(0, 4);
        works.setValve(1, 4);
        works.advance(1);
        Check.due("the first pipe found nothing", 0, works.content(2));
        Check.due("the second one did", 20, works.content(1));
        works.advance(1);
        Check.due("now the first one", 10, works.content(2));
        Check.due("and the second one behind it", "40/100", Check.tank(works, 0).substring(2, 8));
        Check.due("tank 1", 30, works.content(1));
    }

    static void promise9TowardsTheFirstTank() {
        FilterWaterworks works = new FilterWaterworks();
        works.addTank(100);
        works.addTank(100);
        works.addPipe(0, 1, 2);
        works.pour(1, 30, 3);
        works.setValve(0, 1);
        works.advance(2);
        Check.due("contents", "10/100 20/100", contents(works));
        Check.due("impurity", 1, works.impurities(0));
        Check.due("dirt", 2, works.dirt(0));
        Check.due("litres", 10, works.litresThrough(0));
    }

    private static String contents(FilterWaterworks works) {
        return works.content(0) + "/" + works.capacity(0) + " " + works.content(1) + "/" + works.capacity(1);
    }
}
