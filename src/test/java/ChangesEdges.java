/** The boundaries that the promises 1 to 9 name. */
final class ChangesEdges {
    private ChangesEdges() {
    }

    @Sentence(promise = 1, value = "Creates a waterworks without tanks and pipes at time 0.")
    static void promise1NothingThere() {
        FilterWaterworks works = new FilterWaterworks();
        Check.due("tanks, pipes, time", "0 0 0", works.tankCount() + " " + works.pipeCount() + " " + works.time());
        Check.due("totals", "0 0 0 0 0", works.pouredTotal() + " " + works.drawnTotal() + " " + works.spilledTotal() + " "
                + works.totalContent() + " " + works.totalContentByAccounts());
        Check.thrown("tank 0", Edges.INDEX, () -> works.capacity(0));
        Check.thrown("pipe 0", Edges.INDEX, () -> works.firstOf(0));
        Check.thrown("no output", Edges.INDEX, () -> works.outputAt(0));
        Check.thrown("no error", Edges.ELEMENT, works::errorPosition);
        Check.thrown("no failure", Edges.ELEMENT, works::failedCommand);
        Check.thrown("nothing to undo", Edges.ELEMENT, works::undo);
        Check.thrown("no snapshot", Edges.STATE, works::restore);
        Check.due("the buffer is empty", 1, works.type('x'));
    }

    /** What is done to one object is not done to another one. */
    @Sentence(promise = 1, value = "Creates a waterworks without tanks and pipes at time 0.")
    static void promise1EachForItself() {
        FilterWaterworks one = Edges.busy();
        FilterWaterworks other = new FilterWaterworks();
        Check.due("tanks, pipes, time", "0 0 0", other.tankCount() + " " + other.pipeCount() + " " + other.time());
        other.addTank(999);
        other.save();
        other.type('x');
        Check.due("the first one", Edges.everything(Edges.busy()), Edges.everything(one));
    }

    // ---- addTank ----

    @Sentence(promise = 2, value = "Adds an empty tank.")
    static void promise2Empty() {
        FilterWaterworks works = Edges.tanks(7);
        works.addTank(10);
        Check.due("content", 0, works.content(7));
        Check.due("impurities", 0, works.impurities(7));
        Check.due("nothing was poured", 350, works.pouredTotal());
    }

    @Sentence(promise = 2, value = "Throws `IllegalArgumentException` if the capacity is not between 10 and 999")
    static void promise2Capacity() {
        for (int capacity : new int[] {10, 11, 998, 999}) {
            FilterWaterworks works = Edges.tanks(7);
            Check.due("capacity " + capacity, 7, works.addTank(capacity));
            Check.due("capacity " + capacity, capacity, works.capacity(7));
        }
        for (int capacity : new int[] {Integer.MIN_VALUE, -10, -1, 0, 1, 9, 1000, 1001, Integer.MAX_VALUE}) {
            Edges.refused("capacity " + capacity, Edges.ARGUMENT, works -> works.addTank(capacity));
        }
    }

    @Sentence(promise = 2, value = "Throws `IllegalStateException` if there are 8 tanks")
    static void promise2EightTanks() {
        Check.due("the eighth", 7, Edges.tanks(7).addTank(10));
        Check.thrown("the ninth", Edges.STATE, () -> Edges.tanks(8).addTank(10));
        Edges.refused("the least", Edges.STATE, () -> Edges.busy(8, 12), works -> works.addTank(10));
        Edges.refused("the greatest", Edges.STATE, () -> Edges.busy(8, 12), works -> works.addTank(999));
    }

    // ---- addPipe ----

    @Sentence(promise = 3, value = Edges.NO_TANKS)
    static void promise3NoTank() {
        Edges.needsTanks((works, first, second) -> works.addPipe(first, second, 0));
        Check.thrown("one tank", Edges.INDEX, () -> Edges.tanks(1).addPipe(0, 1, 0));
    }

    private static final String SAME = "Throws `IllegalArgumentException` if both tanks are the same, or the mesh is not"
            + " between 0 and 255";

    @Sentence(promise = 3, value = SAME)
    static void promise3TheSameTank() {
        for (int tank = 0; tank < 8; tank++) {
            int same = tank;
            Edges.refused("tank " + tank, Edges.ARGUMENT, () -> Edges.busy(8, 2), works -> works.addPipe(same, same, 0));
            int next = (tank + 1) % 8;
            Check.due("the next one", 0, Edges.tanks(8).addPipe(tank, next, 0));
        }
    }

    @Sentence(promise = 3, value = SAME)
    static void promise3Mesh() {
        for (int mesh : new int[] {0, 1, 254, 255}) {
            FilterWaterworks works = Edges.tanks(2);
            Check.due("mesh " + mesh, 0, works.addPipe(0, 1, mesh));
            Check.due("mesh " + mesh, mesh, works.mesh(0));
        }
        for (int mesh : new int[] {Integer.MIN_VALUE, -256, -1, 256, 257, 511, Integer.MAX_VALUE}) {
            Edges.refused("mesh " + mesh, Edges.ARGUMENT, works -> works.addPipe(0, 1, mesh));
        }
    }

    @Sentence(promise = 3, value = "Throws `IllegalStateException` if there are 12 pipes")
    static void promise3TwelvePipes() {
        Check.due("the twelfth", 11, Edges.pipes(11).addPipe(0, 1, 0));
        Check.thrown("the thirteenth", Edges.STATE, () -> Edges.pipes(12).addPipe(0, 1, 0));
        Edges.refused("mesh 0", Edges.STATE, () -> Edges.busy(8, 12), works -> works.addPipe(7, 0, 0));
        Edges.refused("mesh 255", Edges.STATE, () -> Edges.busy(2, 12), works -> works.addPipe(1, 0, 255));
    }

    // ---- pour ----

    @Sentence(promise = 4, value = Edges.NO_TANK)
    static void promise4NoTank() {
        Edges.needsTank((works, tank) -> works.pour(tank, 1, 255));
    }

    private static final String POURED = "Throws `IllegalArgumentException` if the number of litres is not between 1 and"
            + " 999, or the set is not between 0 and 255";

    @Sentence(promise = 4, value = POURED)
    static void promise4Litres() {
        for (int litres : new int[] {1, 2, 998, 999}) {
            FilterWaterworks works = new FilterWaterworks();
            works.addTank(999);
            Check.due("litres " + litres, litres, works.pour(0, litres, 0));
            Check.due("litres " + litres, litres, works.pouredTotal());
        }
        for (int litres : new int[] {Integer.MIN_VALUE, -1, 0, 1000, 1001, Integer.MAX_VALUE}) {
            Edges.refused("litres " + litres, Edges.ARGUMENT, works -> works.pour(2, litres, 0));
        }
    }

    @Sentence(promise = 4, value = POURED)
    static void promise4Impurities() {
        for (int set : new int[] {0, 1, 254, 255}) {
            FilterWaterworks works = new FilterWaterworks();
            works.addTank(10);
            Check.due("set " + set, 1, works.pour(0, 1, set));
            Check.due("set " + set, set, works.impurities(0));
        }
        for (int set : new int[] {Integer.MIN_VALUE, -256, -1, 256, 257, 511, Integer.MAX_VALUE}) {
            Edges.refused("set " + set, Edges.ARGUMENT, works -> works.pour(2, 1, set));
        }
    }

    @Sentence(promise = 4, value = "Throws `UnsupportedOperationException` if the content would be greater than the"
            + " capacity")
    static void promise4Capacity() {
        for (int capacity : new int[] {10, 500, 999}) {
            for (int content : new int[] {0, 1, capacity - 1}) {
                FilterWaterworks works = new FilterWaterworks();
                works.addTank(capacity);
                if (content > 0) {
                    works.pour(0, content, 0);
                }
                if (capacity - content < 999) {
                    Check.thrown("1 too many", Edges.UNSUPPORTED, () -> works.pour(0, capacity - content + 1, 0));
                }
                Check.due("full", capacity, works.pour(0, capacity - content, 0));
                Check.thrown("full", Edges.UNSUPPORTED, () -> works.pour(0, 1, 0));
                Check.thrown("full", Edges.UNSUPPORTED, () -> works.pour(0, 999, 255));
            }
        }
        Edges.refused("too many", Edges.UNSUPPORTED, works -> works.pour(0, 999, 255));
        Edges.refused("an empty one", Edges.UNSUPPORTED, works -> works.pour(2, 101, 255));
        Check.due("which holds 100", 100, Edges.busy().pour(2, 100 - Edges.busy().content(2), 0));
    }

    // ---- draw ----

    @Sentence(promise = 5, value = Edges.NO_TANK)
    static void promise5NoTank() {
        Edges.needsTank((works, tank) -> works.draw(tank, 1));
    }

    @Sentence(promise = 5, value = "Throws `IllegalArgumentException` if the number of litres is not between 1 and 999")
    static void promise5Litres() {
        for (int litres : new int[] {1, 2, 998, 999}) {
            FilterWaterworks works = Edges.pair(999, 0, 0, 0);
            Check.due("litres " + litres, 999 - litres, works.draw(0, litres));
            Check.due("litres " + litres, litres, works.drawnTotal());
        }
        for (int litres : new int[] {Integer.MIN_VALUE, -1, 0, 1000, 1001, Integer.MAX_VALUE}) {
            Edges.refused("litres " + litres, Edges.ARGUMENT, works -> works.draw(0, litres));
        }
    }

    @Sentence(promise = 5, value = "Throws `UnsupportedOperationException` if the content is less")
    static void promise5Content() {
        for (int content : new int[] {1, 2, 500, 998}) {
            FilterWaterworks works = Edges.pair(content, 255, 0, 0);
            Check.thrown("1 too many", Edges.UNSUPPORTED, () -> works.draw(0, content + 1));
            Check.due("nothing was drawn", content, works.content(0));
            Check.due("all", 0, works.draw(0, content));
            Check.thrown("empty", Edges.UNSUPPORTED, () -> works.draw(0, 1));
            Check.thrown("empty", Edges.UNSUPPORTED, () -> works.draw(0, 999));
        }
        Edges.refused("the greatest", Edges.UNSUPPORTED, works -> works.draw(0, 999));
        Edges.refused("an empty one", Edges.UNSUPPORTED, () -> Edges.busy(8, 12), works -> works.draw(7, 1));
    }

    // ---- the pipes' changes ----

    @Sentence(promise = 6, value = Edges.NO_PIPE)
    static void promise6NoPipe() {
        Edges.needsPipe((works, pipe) -> works.setValve(pipe, 4));
    }

    @Sentence(promise = 6, value = "Throws `IllegalArgumentException` if the setting is not between 0 and 4")
    static void promise6Setting() {
        FilterWaterworks all = Edges.pipes(12);
        int previous = 0;
        for (int setting : new int[] {0, 4, 1, 3, 2, 0}) {
            Check.due("the previous one", previous, all.setValve(11, setting));
            Check.due("setting", setting, all.valve(11));
            Check.due("not of another pipe", 0, all.valve(10));
            previous = setting;
        }
        for (int setting : new int[] {Integer.MIN_VALUE, -1, 5, 6, Integer.MAX_VALUE}) {
            Edges.refused("setting " + setting, Edges.ARGUMENT, works -> works.setValve(0, setting));
        }
    }

    @Sentence(promise = 7, value = Edges.NO_PIPE)
    static void promise7NoPipe() {
        Edges.needsPipe((works, pipe) -> works.setLeak(pipe, 9));
    }

    @Sentence(promise = 7, value = "Throws `IllegalArgumentException` if the rate is not between 0 and 9")
    static void promise7Rate() {
        FilterWaterworks all = Edges.pipes(12);
        int previous = 0;
        for (int rate : new int[] {0, 9, 1, 8, 0}) {
            Check.due("the previous one", previous, all.setLeak(11, rate));
            Check.due("rate", rate, all.leak(11));
            Check.due("not of another pipe", 0, all.leak(10));
            previous = rate;
        }
        for (int rate : new int[] {Integer.MIN_VALUE, -1, 10, 11, Integer.MAX_VALUE}) {
            Edges.refused("rate " + rate, Edges.ARGUMENT, works -> works.setLeak(0, rate));
        }
    }

    @Sentence(promise = 8, value = Edges.NO_PIPE)
    static void promise8NoPipe() {
        Edges.needsPipe(FilterWaterworks::cleanFilter);
    }

    @Sentence(promise = 8, value = "Cleans the filter of a pipe: its dirt becomes 0.")
    static void promise8CleanAndClogged() {
        for (int dirt : new int[] {0, 1, 19, 20}) {
            FilterWaterworks works = Edges.dirty(dirt);
            Check.due("before", dirt, works.cleanFilter(0));
            Check.due("clean", 0, works.dirt(0));
            Check.due("open", true, works.isOpen(0));
            Check.due("clean already", 0, works.cleanFilter(0));
            Check.due("the litres stay", 5 * dirt, works.litresThrough(0));
            works.advance(1);
            Check.due("from 0 on", 1, works.dirt(0));
        }
    }

    // ---- advance ----

    @Sentence(promise = 9, value = "Throws `IllegalArgumentException` if the number of minutes is not between 1 and 60")
    static void promise9Minutes() {
        for (int minutes : new int[] {1, 2, 59, 60}) {
            FilterWaterworks works = Edges.pair(999, 0, 0, 1);
            works.advance(minutes);
            Check.due("time", minutes, works.time());
            Check.due("each minute flows", 5 * minutes, works.content(1));
        }
        for (int minutes : new int[] {Integer.MIN_VALUE, -1, 0, 61, 62, Integer.MAX_VALUE}) {
            Edges.refused("minutes " + minutes, Edges.ARGUMENT, works -> works.advance(minutes));
        }
    }

    private static final String SPILLED = "Returns the number of litres that are spilled in these minutes.";

    @Sentence(promise = 9, value = SPILLED)
    static void promise9SpilledInTheseMinutes() {
        FilterWaterworks works = Edges.pair(999, 0, 0, 1);
        Check.due("no leak", 0, works.advance(10));
        works.setLeak(0, 2);
        Check.due("of 1 minute", 2, works.advance(1));
        Check.due("of 30 minutes", 60, works.advance(30));
        works.setValve(0, 0);
        Check.due("closed", 0, works.advance(60));
        Check.due("in all", 62, works.spilledTotal());
    }

    @Sentence(promise = 9, value = SPILLED)
    static void promise9SpilledByAllPipes() {
        FilterWaterworks works = Edges.pair(999, 0, 0, 1);
        for (int pipe = 0; pipe < 12; pipe++) {
            if (pipe > 0) {
                works.addPipe(pipe % 2, 1 - pipe % 2, 0);
            }
            works.setValve(pipe, 1);
            works.setLeak(pipe, pipe % 10);
        }
        Check.due("0 + 1 + 2 + 3 + 4 + 5 * 5 + 0 + 1", 36, works.advance(1));
    }
}
