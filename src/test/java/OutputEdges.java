/** The boundaries that the promises 50 to 52 name. */
final class OutputEdges {
    private OutputEdges() {
    }

    @Sentence(promise = 50, value = Edges.NO_TANK)
    static void promise50NoTank() {
        Edges.needsTank(FilterWaterworks::renderTank);
    }

    private static final String TANK = "Replaces the output text by a description of a tank: its index, \"=\", its content,"
            + " \"/\" and its capacity, and \":\" and the letters of its impurities if it has some, as in"
            + " \"2=50/200:bd\".";

    @Sentence(promise = 50, value = TANK)
    static void promise50NoneAndAllImpurities() {
        for (int letters = 0; letters <= 8; letters++) {
            FilterWaterworks works = new FilterWaterworks();
            works.addTank(10);
            works.pour(0, 1, (1 << letters) - 1);
            String due = letters == 0 ? "0=1/10" : "0=1/10:" + "abcdefgh".substring(0, letters);
            Check.due("letters", due, Check.tank(works, 0));
        }
    }

    @Sentence(promise = 50, value = TANK)
    static void promise50EmptyAndFullTanks() {
        FilterWaterworks works = new FilterWaterworks();
        for (int tank = 0; tank < 8; tank++) {
            works.addTank(tank == 7 ? 999 : 10 * (tank + 1));
        }
        works.pour(7, 999, 128);
        works.pour(6, 70, 0);
        Check.due("the first one, empty", "0=0/10", Check.tank(works, 0));
        Check.due("full, without impurities", "6=70/70", Check.tank(works, 6));
        Check.due("the last one, full", "7=999/999:h", Check.tank(works, 7));
        works.draw(7, 999);
        Check.due("empty again", "7=0/999", Check.tank(works, 7));
        works.pour(2, 10, 0b1010);
        Check.due("two letters", "2=10/30:bd", Check.tank(works, 2));
    }

    /** Nothing of a longer text is left behind a shorter one. */
    @Sentence(promise = 50, value = TANK)
    static void promise50ReplacesTheOutput() {
        FilterWaterworks works = Edges.tanks(2);
        works.pour(0, 50, 255);
        Check.due("long", 18, works.renderTank(0));
        works.draw(0, 100);
        Check.due("short", 7, works.renderTank(0));
        Check.due("text", "0=0/100", Check.output(works, 7));
    }

    @Sentence(promise = 51, value = Edges.NO_PIPE)
    static void promise51NoPipe() {
        Edges.needsPipe(FilterWaterworks::renderPipe);
    }

    private static final String PIPE = "Replaces the output text by a description of a pipe: its index, \":\", its tanks with"
            + " \"-\" between them, \"v\" and the setting, \"d\" and the dirt, then \"l\" and the rate of its leak if this is"
            + " not 0, and \"*\" if it is a bridge, as in \"3:0-4v2d11l1*\".";

    @Sentence(promise = 51, value = PIPE)
    static void promise51Leak() {
        FilterWaterworks works = Edges.pipes(1);
        for (int rate = 0; rate <= 9; rate++) {
            works.setLeak(0, rate);
            Check.due("rate", rate == 0 ? "0:0-1v0d0" : "0:0-1v0d0l" + rate, Check.pipe(works, 0));
        }
        works.setLeak(0, 0);
        Check.due("no leak any more", "0:0-1v0d0", Check.pipe(works, 0));
    }

    @Sentence(promise = 51, value = PIPE)
    static void promise51Bridge() {
        FilterWaterworks works = Edges.pipes(2);
        for (int setting = 0; setting <= 4; setting++) {
            works.setValve(1, setting);
            Check.due("setting", "1:0-1v" + setting + "d0" + (setting == 0 ? "" : "*"), Check.pipe(works, 1));
        }
        works.setValve(0, 1);
        Check.due("no bridge any more", "1:0-1v4d0", Check.pipe(works, 1));
        works.setLeak(1, 9);
        Check.due("a leak", "1:0-1v4d0l9", Check.pipe(works, 1));
        works.setValve(0, 0);
        Check.due("both", "1:0-1v4d0l9*", Check.pipe(works, 1));
    }

    @Sentence(promise = 51, value = PIPE)
    static void promise51CleanAndClogged() {
        Check.due("clean", "0:0-1v1d0*", Check.pipe(Edges.dirty(0), 0));
        Check.due("1", "0:0-1v1d1*", Check.pipe(Edges.dirty(1), 0));
        Check.due("19", "0:0-1v1d19*", Check.pipe(Edges.dirty(19), 0));
        Check.due("clogged", "0:0-1v1d20", Check.pipe(Edges.dirty(20), 0));
    }

    @Sentence(promise = 51, value = PIPE)
    static void promise51FirstAndLastPipe() {
        FilterWaterworks works = Edges.tanks(8);
        for (int pipe = 0; pipe < 12; pipe++) {
            works.addPipe(pipe % 8, (pipe + 1) % 8, 255);
        }
        Check.due("first", "0:0-1v0d0", Check.pipe(works, 0));
        Check.due("last tank first", "7:7-0v0d0", Check.pipe(works, 7));
        Check.due("tenth", "9:1-2v0d0", Check.pipe(works, 9));
        Check.due("last", "11:3-4v0d0", Check.pipe(works, 11));
        Check.due("length", 10, works.renderPipe(11));
    }

    /** Nothing of a longer text is left behind a shorter one. */
    @Sentence(promise = 51, value = PIPE)
    static void promise51ReplacesTheOutput() {
        FilterWaterworks works = Edges.pair(999, 255, 255, 4);
        works.setLeak(0, 1);
        works.advance(2);
        Check.due("long", 13, works.renderPipe(0));
        works.cleanFilter(0);
        works.setLeak(0, 0);
        works.setValve(0, 0);
        Check.due("short", 9, works.renderPipe(0));
        Check.due("text", "0:0-1v0d0", Check.output(works, 9));
        Check.due("a tank", 8, works.renderTank(1));
        Check.due("text", "1=38/999", Check.output(works, 8));
    }

    private static final String CHARACTER = "Returns a character of the output text, which is empty initially.";

    @Sentence(promise = 52, value = CHARACTER)
    static void promise52EmptyInitially() {
        FilterWaterworks works = Edges.tanks(8);
        for (int index : new int[] {Integer.MIN_VALUE, -1, 0, 1, Integer.MAX_VALUE}) {
            Check.thrown("index " + index, Edges.INDEX, () -> works.outputAt(index));
        }
        Check.thrown("refused", Edges.INDEX, () -> works.renderTank(8));
        Check.thrown("still empty", Edges.INDEX, () -> works.outputAt(0));
    }

    @Sentence(promise = 52, value = "Throws `IndexOutOfBoundsException` if there is no such index")
    static void promise52FirstAndLastIndex() {
        FilterWaterworks works = Edges.tanks(8);
        works.renderTank(7);
        String text = "7=50/100:h";
        for (int index = 0; index < text.length(); index++) {
            Check.due("index " + index, text.charAt(index), works.outputAt(index));
        }
        for (int none : new int[] {Integer.MIN_VALUE, -1, text.length(), text.length() + 1, Integer.MAX_VALUE}) {
            Check.thrown("index " + none, Edges.INDEX, () -> works.outputAt(none));
        }
        Edges.refused("before", Edges.INDEX, it -> it.outputAt(-1));
        Edges.refused("behind", Edges.INDEX, it -> it.outputAt(99));
    }
}
