import java.util.NoSuchElementException;
import java.util.function.Supplier;

/** Works that stand at an edge, and a look at everything that a refused call must leave as it was. */
final class Edges {
    static final Class<IndexOutOfBoundsException> INDEX = IndexOutOfBoundsException.class;
    static final Class<IllegalArgumentException> ARGUMENT = IllegalArgumentException.class;
    static final Class<IllegalStateException> STATE = IllegalStateException.class;
    static final Class<UnsupportedOperationException> UNSUPPORTED = UnsupportedOperationException.class;
    static final Class<NoSuchElementException> ELEMENT = NoSuchElementException.class;
    static final Class<ArithmeticException> ARITHMETIC = ArithmeticException.class;

    // Sentences that the document says of many calls.
    static final String NO_TANK = "Throws `IndexOutOfBoundsException` if there is no such tank";
    static final String NO_TANKS = "Throws `IndexOutOfBoundsException` if there is no such tank, for either argument";
    static final String NO_PIPE = "Throws `IndexOutOfBoundsException` if there is no such pipe";
    static final String NO_RANK = "Throws `NoSuchElementException` if there is no such rank";
    static final String RANK = "`rank`: the rank, counted from 0";

    private Edges() {
    }

    interface Call {
        Object of(FilterWaterworks works);
    }

    interface IndexCall {
        Object of(FilterWaterworks works, int index);
    }

    interface PairCall {
        Object of(FilterWaterworks works, int first, int second);
    }

    /** So many tanks, each half full and with one impurity. */
    static FilterWaterworks tanks(int count) {
        FilterWaterworks works = new FilterWaterworks();
        for (int tank = 0; tank < count; tank++) {
            works.addTank(100);
            works.pour(tank, 50, 1 << tank);
        }
        return works;
    }

    /** Two tanks, the first one half full, and so many closed pipes from it to the second one. */
    static FilterWaterworks pipes(int count) {
        FilterWaterworks works = new FilterWaterworks();
        works.addTank(100);
        works.addTank(100);
        works.pour(0, 50, 3);
        for (int pipe = 0; pipe < count; pipe++) {
            works.addPipe(0, 1, 1 + pipe);
        }
        return works;
    }

    /** Two tanks of 999 litres, the first one with water, and one pipe from it to the second one. */
    static FilterWaterworks pair(int litres, int impurities, int mesh, int setting) {
        FilterWaterworks works = new FilterWaterworks();
        works.addTank(999);
        works.addTank(999);
        works.addPipe(0, 1, mesh);
        works.pour(0, litres, impurities);
        works.setValve(0, setting);
        return works;
    }

    /** A pair whose filter has so much dirt after so many minutes, with the setting 1. */
    static FilterWaterworks dirty(int dirt) {
        FilterWaterworks works = pair(999, 1, 1, 1);
        if (dirt > 0) {
            works.advance(dirt);
        }
        Check.due("dirt", dirt, works.dirt(0));
        return works;
    }

    /** Tanks in a row, each with an open pipe to the next one. */
    static FilterWaterworks row(int tanks, int capacity) {
        FilterWaterworks works = new FilterWaterworks();
        for (int tank = 0; tank < tanks; tank++) {
            works.addTank(capacity);
        }
        for (int pipe = 0; pipe < tanks - 1; pipe++) {
            works.addPipe(pipe, pipe + 1, 0);
            works.setValve(pipe, 1);
        }
        return works;
    }

    /**
     * Works in the midst of all (at least 2 tanks and 2 pipes): more than 8 changes, a snapshot, an output text, a
     * script that has begun, an error position and a failed command.
     */
    static FilterWaterworks busy(int tanks, int pipes) {
        FilterWaterworks works = new FilterWaterworks();
        for (int tank = 0; tank < tanks; tank++) {
            works.addTank(40 + 30 * tank);
        }
        for (int pipe = 0; pipe < pipes; pipe++) {
            works.addPipe(pipe % tanks, (pipe + 1) % tanks, 4 + pipe);
        }
        works.pour(0, 40, 0b101);
        works.setValve(0, 2);
        works.setLeak(0, 3);
        works.advance(2);
        works.save();
        works.pour(1, 5, 8);
        works.setValve(1, 1);
        works.draw(0, 7);
        works.advance(1);
        works.cleanFilter(0);
        works.setLeak(1, 9);
        works.advance(1);
        Check.run(works, "tan");
        Check.run(works, "wait;tank 5");
        works.renderTank(1);
        Check.type(works, "wait 7");
        return works;
    }

    static FilterWaterworks busy() {
        return busy(3, 3);
    }

    /** All that can be asked, and then all that undo, restore and the begun script lead to; it uses the works up. */
    static String everything(FilterWaterworks works) {
        StringBuilder text = new StringBuilder(UndoTest.picture(works));
        text.append("\noutput ");
        for (int index = 0; Check.outcome(outputAt(works, index)) instanceof Character; index++) {
            text.append(works.outputAt(index));
        }
        text.append("\nerror ").append(Check.outcome(works::errorPosition));
        text.append("\nfailed ").append(Check.outcome(works::failedCommand));
        Object left = Check.outcome(works::undo);
        for (int undone = 0; undone < 10 && left instanceof Integer; undone++) {
            text.append("\nundo ").append(left).append(' ').append(shortPicture(works));
            left = Check.outcome(works::undo);
        }
        text.append("\nrestore ").append(Check.outcome(works::restore)).append(' ').append(shortPicture(works));
        text.append("\nscript ").append(Check.outcome(works::runScript)).append(' ').append(shortPicture(works));
        text.append(' ').append(Check.outcome(works::errorPosition));
        return text.toString();
    }

    private static Check.Call outputAt(FilterWaterworks works, int index) {
        return () -> works.outputAt(index);
    }

    private static String shortPicture(FilterWaterworks works) {
        StringBuilder text = new StringBuilder();
        text.append(works.time()).append(' ').append(works.pouredTotal()).append(' ').append(works.drawnTotal());
        text.append(' ').append(works.spilledTotal()).append(' ').append(works.fingerprint());
        int pipes = works.pipeCount();
        for (int pipe = 0; pipe < pipes; pipe++) {
            text.append(' ').append(works.litresThrough(pipe));
        }
        return text.toString();
    }

    /** A call throws the very exception, and afterwards everything is as if it had not been called. */
    static void refused(String what, Class<? extends RuntimeException> want, Supplier<FilterWaterworks> made, Call call) {
        FilterWaterworks works = made.get();
        Check.thrown(what, want, () -> call.of(works));
        Check.due(what + " changes nothing", everything(made.get()), everything(works));
    }

    static void refused(String what, Class<? extends RuntimeException> want, Call call) {
        refused(what, want, Edges::busy, call);
    }

    /** Of no tank to 8 tanks the first and the last one are there; the ones before and behind are not. */
    static void needsTank(IndexCall call) {
        for (int count = 0; count <= 8; count++) {
            for (int there = 0; there < count; there++) {
                answered(count + " tanks, tank " + there, tanks(count), call, there);
            }
            for (int none : new int[] {Integer.MIN_VALUE, -1, count, count + 1, Integer.MAX_VALUE}) {
                FilterWaterworks works = tanks(count);
                Check.thrown(count + " tanks, tank " + none, INDEX, () -> call.of(works, none));
            }
        }
        refused("tank -1", INDEX, works -> call.of(works, -1));
        refused("tank 3 of 3", INDEX, works -> call.of(works, 3));
        refused("tank 8 of 8", INDEX, () -> busy(8, 12), works -> call.of(works, 8));
    }

    /** The same for either of two tanks, whatever the other one is. */
    static void needsTanks(PairCall call) {
        for (int none : new int[] {Integer.MIN_VALUE, -1, 3, 8, Integer.MAX_VALUE}) {
            refused("first tank " + none, INDEX, works -> call.of(works, none, 0));
            refused("second tank " + none, INDEX, works -> call.of(works, 0, none));
            refused("both tanks " + none, INDEX, works -> call.of(works, none, none));
        }
        for (int count = 0; count <= 8; count++) {
            int none = count;
            FilterWaterworks works = row(count, 100);
            Check.thrown("first of " + count, INDEX, () -> call.of(works, none, 0));
            Check.thrown("second of " + count, INDEX, () -> call.of(works, 0, none));
            for (int tank = 0; tank < count - 1; tank++) {
                answered("the last one first", row(count, 100), (it, index) -> call.of(it, none - 1, index), tank);
                answered("the last one second", row(count, 100), (it, index) -> call.of(it, index, none - 1), tank);
            }
        }
    }

    /** Of no pipe to 12 pipes each one is there; the ones before and behind are not. */
    static void needsPipe(IndexCall call) {
        for (int count = 0; count <= 12; count++) {
            for (int there = 0; there < count; there++) {
                answered(count + " pipes, pipe " + there, pipes(count), call, there);
            }
            for (int none : new int[] {Integer.MIN_VALUE, -1, count, count + 1, Integer.MAX_VALUE}) {
                FilterWaterworks works = pipes(count);
                Check.thrown(count + " pipes, pipe " + none, INDEX, () -> call.of(works, none));
            }
        }
        refused("pipe -1", INDEX, works -> call.of(works, -1));
        refused("pipe 3 of 3", INDEX, works -> call.of(works, 3));
        refused("pipe 12 of 12", INDEX, () -> busy(8, 12), works -> call.of(works, 12));
    }

    private static void answered(String what, FilterWaterworks works, IndexCall call, int index) {
        Object got = Check.outcome(() -> call.of(works, index));
        Check.due(what + " is answered, not " + got, false, got instanceof String);
    }
}
