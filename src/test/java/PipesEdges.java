/** The boundaries that the promises 18 to 28 name. */
final class PipesEdges {
    private PipesEdges() {
    }

    @Sentence(promise = 18, value = "Returns the number of pipes.")
    static void promise18NoneToTwelve() {
        for (int pipes = 0; pipes <= 12; pipes++) {
            Check.due("pipes", pipes, Edges.pipes(pipes).pipeCount());
        }
        FilterWaterworks works = Edges.pipes(12);
        Check.thrown("a thirteenth", Edges.STATE, () -> works.addPipe(0, 1, 0));
        Check.due("refused ones do not count", 12, works.pipeCount());
    }

    @Sentence(promise = 19, value = Edges.NO_PIPE)
    static void promise19NoPipe() {
        Edges.needsPipe(FilterWaterworks::firstOf);
    }

    @Sentence(promise = 20, value = Edges.NO_PIPE)
    static void promise20NoPipe() {
        Edges.needsPipe(FilterWaterworks::secondOf);
    }

    @Sentence(promise = 21, value = Edges.NO_PIPE)
    static void promise21NoPipe() {
        Edges.needsPipe(FilterWaterworks::valve);
    }

    @Sentence(promise = 22, value = Edges.NO_PIPE)
    static void promise22NoPipe() {
        Edges.needsPipe(FilterWaterworks::leak);
    }

    @Sentence(promise = 23, value = Edges.NO_PIPE)
    static void promise23NoPipe() {
        Edges.needsPipe(FilterWaterworks::mesh);
    }

    @Sentence(promise = 24, value = Edges.NO_PIPE)
    static void promise24NoPipe() {
        Edges.needsPipe(FilterWaterworks::dirt);
    }

    @Sentence(promise = 25, value = Edges.NO_PIPE)
    static void promise25NoPipe() {
        Edges.needsPipe(FilterWaterworks::isOpen);
    }

    @Sentence(promise = 25, value = "Returns true if it is open.")
    static void promise25FirstAndLastSetting() {
        FilterWaterworks works = Edges.pipes(12);
        Check.due("setting 0", false, works.isOpen(11));
        works.setValve(11, 1);
        Check.due("setting 1", true, works.isOpen(11));
        works.setValve(11, 4);
        Check.due("setting 4", true, works.isOpen(11));
        Check.due("another pipe", false, works.isOpen(0));
        Check.due("dirt 19", true, Edges.dirty(19).isOpen(0));
        Check.due("dirt 20", false, Edges.dirty(20).isOpen(0));
    }

    // ---- flow ----

    @Sentence(promise = 26, value = Edges.NO_PIPE)
    static void promise26NoPipe() {
        Edges.needsPipe(FilterWaterworks::flow);
    }

    private static final String FLOW = "Returns how many litres would leave a tank through a pipe if it was the first one"
            + " to be visited now.";

    /** The pipes before it would take the water away, and the leak does not matter. */
    @Sentence(promise = 26, value = FLOW)
    static void promise26IfItWasTheFirstOne() {
        FilterWaterworks works = Edges.pipes(12);
        works.draw(0, 48);
        for (int pipe = 0; pipe < 12; pipe++) {
            works.setValve(pipe, 4);
            works.setLeak(pipe, 9);
        }
        for (int pipe = 0; pipe < 12; pipe++) {
            Check.due("pipe " + pipe, 1, works.flow(pipe));
        }
        works.advance(1);
        Check.due("only one of them was", 1, works.litresThrough(0));
        Check.due("the last one had nothing", 0, works.litresThrough(11));
        Check.due("nor has it now", 0, works.flow(11));
    }

    @Sentence(promise = 26, value = FLOW)
    static void promise26ChangesNothing() {
        FilterWaterworks works = Edges.busy();
        works.flow(0);
        works.flow(1);
        Check.due("everything", Edges.everything(Edges.busy()), Edges.everything(works));
    }

    private static final String LITRES = "Returns the number of litres, negative if they would leave the second tank, 0 if"
            + " nothing would flow.";

    @Sentence(promise = 26, value = LITRES)
    static void promise26NegativeOutOfTheSecondTank() {
        for (int difference = -45; difference <= 45; difference++) {
            for (int setting = 1; setting <= 4; setting++) {
                FilterWaterworks works = Edges.pair(100, 0, 0, setting);
                works.pour(1, 100 - difference, 0);
                int litres = Math.min(5 * setting, Math.abs(difference) / 2);
                Check.due("difference " + difference, difference < 0 ? -litres : litres, works.flow(0));
            }
        }
    }

    @Sentence(promise = 26, value = LITRES)
    static void promise26NothingWouldFlow() {
        FilterWaterworks works = Edges.pair(100, 0, 0, 4);
        works.pour(1, 100, 0);
        Check.due("equal", 0, works.flow(0));
        works.pour(1, 1, 0);
        Check.due("a difference of 1", 0, works.flow(0));
        works.pour(0, 2, 0);
        Check.due("a difference of 1, the other way", 0, works.flow(0));
        Check.due("closed", 0, Edges.pair(999, 0, 0, 0).flow(0));
        Check.due("clogged", 0, Edges.dirty(20).flow(0));
        Check.due("empty tanks", 0, Edges.pipes(1).flow(0));
        FilterWaterworks full = new FilterWaterworks();
        full.addTank(10);
        full.addTank(999);
        full.addPipe(0, 1, 0);
        full.setValve(0, 4);
        full.pour(1, 999, 0);
        full.pour(0, 9, 0);
        Check.due("1 litre fits", -1, full.flow(0));
        full.pour(0, 1, 0);
        Check.due("nothing fits", 0, full.flow(0));
    }

    // ---- litresThrough ----

    @Sentence(promise = 27, value = Edges.NO_PIPE)
    static void promise27NoPipe() {
        Edges.needsPipe(FilterWaterworks::litresThrough);
    }

    @Sentence(promise = 27, value = "Returns how many litres have left tanks through a pipe so far, in whatever direction.")
    static void promise27BothDirections() {
        FilterWaterworks works = Edges.pair(10, 0, 0, 1);
        Check.due("none so far", 0, works.litresThrough(0));
        works.advance(1);
        Check.due("5 from the first tank", 5, works.litresThrough(0));
        works.pour(1, 4, 0);
        works.advance(1);
        Check.due("2 from the second one", 7, works.litresThrough(0));
        works.pour(0, 20, 0);
        works.setLeak(0, 9);
        works.advance(1);
        Check.due("those that are spilled too", 12, works.litresThrough(0));
        works.undo();
        Check.due("undone", 7, works.litresThrough(0));
    }

    // ---- rankings ----

    private static void ranks(FilterWaterworks works, int... due) {
        for (int rank = 0; rank < due.length; rank++) {
            Check.due("rank " + rank, due[rank], works.pipeByDirt(rank));
        }
    }

    @Sentence(promise = 28, value = Edges.RANK)
    static void promise28CountedFrom0() {
        FilterWaterworks works = Edges.dirty(1);
        works.addPipe(0, 1, 0);
        ranks(works, 0, 1);
    }

    @Sentence(promise = 28, value = Edges.NO_RANK)
    static void promise28NoRank() {
        for (int pipes = 0; pipes <= 12; pipes++) {
            FilterWaterworks works = Edges.pipes(pipes);
            for (int none : new int[] {Integer.MIN_VALUE, -1, pipes, pipes + 1, Integer.MAX_VALUE}) {
                Check.thrown(pipes + " pipes, rank " + none, Edges.ELEMENT, () -> works.pipeByDirt(none));
            }
            if (pipes > 0) {
                Check.due("the last rank", pipes - 1, works.pipeByDirt(pipes - 1));
            }
        }
        Edges.refused("rank 3 of 3", Edges.ELEMENT, works -> works.pipeByDirt(3));
        Edges.refused("rank -1", Edges.ELEMENT, works -> works.pipeByDirt(-1));
    }

    private static final String SORTED = "Returns the pipe at a rank when pipes are sorted by dirt in descending order, then"
            + " by the litres that have left tanks through them in descending order, then by index in ascending order.";

    @Sentence(promise = 28, value = SORTED)
    static void promise28ByIndex() {
        ranks(Edges.pipes(12), 0, 1, 2, 3, 4, 5, 6, 7, 8, 9, 10, 11);
    }

    /** Pipes from a full tank: so many litres a minute through each one, and so much dirt. */
    private static FilterWaterworks pipes(int[] settings, int[] meshes) {
        FilterWaterworks works = new FilterWaterworks();
        works.addTank(999);
        works.addTank(999);
        works.pour(0, 999, 255);
        for (int pipe = 0; pipe < settings.length; pipe++) {
            works.addPipe(0, 1, meshes[pipe]);
            works.setValve(pipe, settings[pipe]);
        }
        works.advance(1);
        return works;
    }

    @Sentence(promise = 28, value = SORTED)
    static void promise28ByDirt() {
        FilterWaterworks works = pipes(new int[] {4, 1, 1, 2}, new int[] {0, 0b11, 0b111, 0b1});
        ranks(works, 2, 1, 3, 0);
        works.cleanFilter(2);
        ranks(works, 1, 3, 0, 2);
    }

    @Sentence(promise = 28, value = SORTED)
    static void promise28ByLitres() {
        ranks(pipes(new int[] {1, 0, 3, 2, 3, 1}, new int[] {1, 1, 2, 4, 8, 16}), 2, 4, 3, 0, 5, 1);
    }
}
