import java.util.NoSuchElementException;

/** Promises 57 to 59. */
final class UndoTest {
    private static final Class<NoSuchElementException> ELEMENT = NoSuchElementException.class;
    private static final Class<IllegalStateException> STATE = IllegalStateException.class;

    private UndoTest() {
    }

    /** All that the face tells of the state, but for what undo does not cover. */
    static String picture(FilterWaterworks works) {
        StringBuilder text = new StringBuilder();
        text.append(works.time()).append(' ').append(works.pouredTotal()).append(' ').append(works.drawnTotal());
        text.append(' ').append(works.spilledTotal()).append(' ').append(works.fingerprint());
        for (int tank = 0; tank < works.tankCount(); tank++) {
            text.append(" t").append(works.capacity(tank)).append(',').append(works.content(tank));
            text.append(',').append(works.impurities(tank));
        }
        for (int pipe = 0; pipe < works.pipeCount(); pipe++) {
            text.append(" p").append(works.firstOf(pipe)).append(',').append(works.secondOf(pipe)).append(',');
            text.append(works.mesh(pipe)).append(',').append(works.valve(pipe)).append(',').append(works.leak(pipe));
            text.append(',').append(works.dirt(pipe)).append(',').append(works.litresThrough(pipe));
        }
        return text.toString();
    }

    private interface Change {
        Object of(FilterWaterworks works);
    }

    private static void undone(Change change) {
        FilterWaterworks works = ChangesTest.pair(100, 7, 2, 1);
        works.setLeak(0, 2);
        works.advance(2);
        works.pour(1, 5, 8);
        String before = picture(works);
        change.of(works);
        Check.due("eight were kept", 7, works.undo());
        Check.due("undone", before, picture(works));
    }

    static void promise57EachChange() {
        undone(works -> works.addTank(20));
        undone(works -> works.addPipe(1, 0, 9));
        undone(works -> works.pour(0, 3, 64));
        undone(works -> works.draw(1, works.content(1)));
        undone(works -> works.setValve(0, 3));
        undone(works -> works.setValve(0, 1));
        undone(works -> works.setLeak(0, 9));
        undone(works -> works.cleanFilter(0));
        undone(works -> works.advance(20));
        undone(works -> Check.run(works, "tank 30;pour 2 9/c;pipe 12/a;valve 1 4;wait 9"));
    }

    static void promise57Counts() {
        FilterWaterworks works = new FilterWaterworks();
        Check.thrown("nothing", ELEMENT, works::undo);
        works.addTank(100);
        for (int minute = 0; minute < 10; minute++) {
            works.advance(1);
        }
        for (int left = 7; left >= 0; left--) {
            Check.due("left", left, works.undo());
        }
        Check.due("eight minutes back", 2, works.time());
        Check.thrown("no more", ELEMENT, works::undo);
        Check.due("nothing changed", 2, works.time());
        works.advance(1);
        works.advance(2);
        Check.due("one left", 1, works.undo());
        works.advance(3);
        Check.due("time", 6, works.time());
        Check.due("one left again", 1, works.undo());
        Check.due("none left", 0, works.undo());
        Check.due("time", 2, works.time());
    }

    static void promise57NoChanges() {
        FilterWaterworks works = new FilterWaterworks();
        works.addTank(100);
        Check.thrown("refused", IllegalArgumentException.class, () -> works.addTank(1));
        Check.thrown("refused", UnsupportedOperationException.class, () -> works.draw(0, 1));
        Check.run(works, "tank 10;tank 1");
        Check.run(works, "tank");
        works.save();
        works.isConsistent();
        works.minutesUntilStill();
        works.type('x');
        works.renderTank(0);
        Check.due("only the tank", 0, works.undo());
        Check.due("no tank", 0, works.tankCount());
        Check.due("the buffer is not covered", 2, works.type('y'));
        Check.due("the output is not covered", '0', works.outputAt(0));
    }

    static void promise58() {
        FilterWaterworks works = new FilterWaterworks();
        Check.due("none", 0, works.save());
        works.addTank(100);
        works.addTank(100);
        Check.due("two", 2, works.save());
        works.addTank(100);
        Check.due("the later one counts", 2, works.restore());
        works.addTank(100);
        Check.due("undo is no restore", 0, works.undo());
        Check.due("no change", "NoSuchElementException", Check.outcome(works::undo));
        Check.due("kept by undo", 2, works.restore());
    }

    static void promise59() {
        FilterWaterworks works = ChangesTest.pair(100, 7, 2, 1);
        Check.thrown("no snapshot", STATE, works::restore);
        Check.due("undo is still there", 4, works.undo());
        works.setValve(0, 2);
        works.setLeak(0, 2);
        works.advance(3);
        String before = picture(works);
        Check.due("save", 2, works.save());
        works.type('a');
        works.addTank(50);
        works.draw(0, 3);
        works.cleanFilter(0);
        works.advance(2);
        works.renderTank(2);
        Check.due("restore", 2, works.restore());
        Check.due("all of it", before, picture(works));
        Check.thrown("nothing to undo", ELEMENT, works::undo);
        Check.due("the buffer is not covered", 2, works.type('b'));
        Check.due("the output is not covered", '2', works.outputAt(0));
        works.advance(1);
        Check.due("a change can be undone", 0, works.undo());
        Check.due("and leads back there", before, picture(works));
        works.addTank(50);
        Check.due("the snapshot is kept", 2, works.restore());
        Check.due("all of it again", before, picture(works));
    }
}
