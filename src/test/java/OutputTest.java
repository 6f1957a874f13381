/** Promises 50 to 52. */
final class OutputTest {
    private static final Class<IndexOutOfBoundsException> INDEX = IndexOutOfBoundsException.class;

    private OutputTest() {
    }

    static void promise50() {
        FilterWaterworks works = new FilterWaterworks();
        Check.thrown("no tank", INDEX, () -> works.renderTank(0));
        works.addTank(10);
        works.addTank(999);
        works.addTank(200);
        works.pour(1, 999, 255);
        works.pour(2, 50, 0b1010);
        Check.due("empty", "0=0/10", Check.tank(works, 0));
        Check.due("full", "1=999/999:abcdefgh", Check.tank(works, 1));
        Check.due("the example", "2=50/200:bd", Check.tank(works, 2));
        Check.thrown("behind", INDEX, () -> works.renderTank(3));
        Check.thrown("before", INDEX, () -> works.renderTank(-1));
        Check.due("length", 11, works.renderTank(2));
    }

    static void promise51() {
        FilterWaterworks works = new FilterWaterworks();
        for (int tank = 0; tank < 5; tank++) {
            works.addTank(999);
        }
        Check.thrown("no pipe", INDEX, () -> works.renderPipe(0));
        for (int pipe = 0; pipe < 3; pipe++) {
            works.addPipe(1, 2, 0);
        }
        works.addPipe(0, 4, 255);
        Check.due("closed", "0:1-2v0d0", Check.pipe(works, 0));
        works.setValve(1, 4);
        Check.due("a bridge", "1:1-2v4d0*", Check.pipe(works, 1));
        works.setValve(2, 1);
        works.setLeak(2, 9);
        Check.due("no bridge", "2:1-2v1d0l9", Check.pipe(works, 2));
        works.setValve(3, 2);
        works.setLeak(3, 1);
        works.pour(0, 500, 1);
        works.advance(5);
        works.pour(0, 10, 63);
        works.advance(1);
        Check.due("the example", "3:0-4v2d11l1*", Check.pipe(works, 3));
        works.advance(2);
        Check.due("clogged", "3:0-4v2d20l1", Check.pipe(works, 3));
        Check.thrown("behind", INDEX, () -> works.renderPipe(4));
        Check.thrown("before", INDEX, () -> works.renderPipe(-1));
        for (int pipe = 4; pipe < 12; pipe++) {
            works.addPipe(4, 3, 0);
        }
        Check.due("two digits", "11:4-3v0d0", Check.pipe(works, 11));
    }

    static void promise52() {
        FilterWaterworks works = new FilterWaterworks();
        Check.thrown("empty initially", INDEX, () -> works.outputAt(0));
        works.addTank(50);
        works.addTank(50);
        works.addPipe(0, 1, 0);
        works.renderPipe(0);
        Check.due("character", '-', works.outputAt(3));
        Check.due("first", '0', works.outputAt(0));
        Check.thrown("before", INDEX, () -> works.outputAt(-1));
        works.renderTank(1);
        Check.due("replaced", "1=0/50", Check.output(works, 6));
        Check.thrown("no tank", INDEX, () -> works.renderTank(2));
        Check.thrown("no pipe", INDEX, () -> works.renderPipe(1));
        works.undo();
        works.save();
        works.restore();
        Check.due("kept", "1=0/50", Check.output(works, 6));
    }
}
