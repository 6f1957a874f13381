/** The boundaries that the promises 40 to 49 name. */
final class TotalsEdges {
    private TotalsEdges() {
    }

    @Sentence(promise = 40, value = "Returns the time.")
    static void promise40FirstAndLongestMinutes() {
        FilterWaterworks works = new FilterWaterworks();
        Check.due("new", 0, works.time());
        Check.thrown("refused", Edges.ARGUMENT, () -> works.advance(0));
        Check.thrown("refused", Edges.ARGUMENT, () -> works.advance(61));
        Check.due("still", 0, works.time());
        works.advance(60);
        works.advance(1);
        Check.due("61", 61, works.time());
        Check.run(works, "wait 60;wait;tank 9");
        Check.due("not by a script that fails", 61, works.time());
        works.undo();
        Check.due("undone", 60, works.time());
    }

    @Sentence(promise = 41, value = "Returns how many litres have been poured in so far.")
    static void promise41NoneAndMost() {
        FilterWaterworks works = new FilterWaterworks();
        Check.due("none", 0, works.pouredTotal());
        works.addTank(999);
        works.pour(0, 1, 0);
        Check.due("the least", 1, works.pouredTotal());
        works.pour(0, 998, 0);
        Check.thrown("full", Edges.UNSUPPORTED, () -> works.pour(0, 1, 0));
        Check.due("not what was refused", 999, works.pouredTotal());
        works.draw(0, 999);
        works.pour(0, 999, 0);
        Check.due("also what was drawn again", 1998, works.pouredTotal());
    }

    @Sentence(promise = 42, value = "Returns how many litres have been drawn so far.")
    static void promise42NoneAndMost() {
        FilterWaterworks works = Edges.pair(999, 0, 0, 0);
        Check.due("none", 0, works.drawnTotal());
        works.draw(0, 1);
        Check.due("the least", 1, works.drawnTotal());
        Check.thrown("too many", Edges.UNSUPPORTED, () -> works.draw(0, 999));
        Check.due("not what was refused", 1, works.drawnTotal());
        works.draw(0, 998);
        Check.due("all", 999, works.drawnTotal());
    }

    @Sentence(promise = 43, value = "Returns how many litres have been spilled so far.")
    static void promise43NoneAndMost() {
        FilterWaterworks works = Edges.pair(999, 0, 0, 4);
        works.advance(1);
        Check.due("no leak", 0, works.spilledTotal());
        works.setLeak(0, 9);
        works.advance(2);
        Check.due("the greatest rate", 18, works.spilledTotal());
        works.setLeak(0, 1);
        works.advance(1);
        Check.due("the least rate", 19, works.spilledTotal());
        works.setValve(0, 0);
        works.advance(60);
        Check.due("closed", 19, works.spilledTotal());
    }

    private static void contents(java.util.function.ToIntFunction<FilterWaterworks> total) {
        for (int tanks = 0; tanks <= 8; tanks++) {
            FilterWaterworks works = new FilterWaterworks();
            for (int tank = 0; tank < tanks; tank++) {
                works.addTank(999);
            }
            Check.due("empty tanks", 0, total.applyAsInt(works));
            for (int tank = 0; tank < tanks; tank++) {
                works.pour(tank, 999, 0);
            }
            Check.due("full tanks", 999 * tanks, total.applyAsInt(works));
            for (int tank = 0; tank < tanks; tank++) {
                works.draw(tank, 998);
            }
            Check.due("the last litre of each", tanks, total.applyAsInt(works));
        }
        FilterWaterworks works = Edges.pair(100, 0, 0, 2);
        works.setLeak(0, 9);
        works.advance(3);
        Check.due("without what is spilled", 73, total.applyAsInt(works));
    }

    @Sentence(promise = 44, value = "Returns the content of all tanks, added tank by tank.")
    static void promise44NoneToEightTanks() {
        contents(FilterWaterworks::totalContent);
    }

    @Sentence(promise = 45, value = "Returns the same number as totalContent: the litres poured in minus those drawn and"
            + " spilled.")
    static void promise45NoneToEightTanks() {
        contents(FilterWaterworks::totalContentByAccounts);
    }

    // ---- means ----

    private static final String NO_TANKS = "Throws `ArithmeticException` if there are no tanks";

    private static void meanNeedsATank(Edges.Call mean) {
        FilterWaterworks works = new FilterWaterworks();
        Check.thrown("no tank", Edges.ARITHMETIC, () -> mean.of(works));
        works.addTank(10);
        Check.due("one tank", false, mean.of(works) instanceof String);
        works.undo();
        Check.thrown("undone", Edges.ARITHMETIC, () -> mean.of(works));
        Edges.refused("no tank", Edges.ARITHMETIC, TotalsEdges::withoutTanks, mean);
    }

    private static FilterWaterworks withoutTanks() {
        FilterWaterworks works = new FilterWaterworks();
        works.advance(60);
        works.save();
        works.advance(3);
        Check.run(works, "wai");
        Check.run(works, "clean 0");
        Check.type(works, "wait 4");
        return works;
    }

    @Sentence(promise = 46, value = NO_TANKS)
    static void promise46NoTanks() {
        meanNeedsATank(FilterWaterworks::meanContent);
    }

    private static final String MEAN = "Returns the mean content of the tanks: the sum divided by their number, both"
            + " converted to double.";

    @Sentence(promise = 46, value = MEAN)
    static void promise46EmptyAndFullTanks() {
        for (int tanks = 1; tanks <= 8; tanks++) {
            FilterWaterworks works = new FilterWaterworks();
            for (int tank = 0; tank < tanks; tank++) {
                works.addTank(999);
            }
            Check.due("empty", 0.0, works.meanContent());
            works.pour(tanks - 1, 1, 0);
            Check.due("1 litre", 1.0 / tanks, works.meanContent());
            works.pour(tanks - 1, 998, 0);
            Check.due("one is full", 999.0 / tanks, works.meanContent());
            for (int tank = 0; tank < tanks - 1; tank++) {
                works.pour(tank, 999, 0);
            }
            Check.due("all are full", 999.0, works.meanContent());
        }
    }

    @Sentence(promise = 47, value = NO_TANKS)
    static void promise47NoTanks() {
        meanNeedsATank(FilterWaterworks::meanContentBits);
    }

    private static final String BITS = "Returns the bits of meanContent, as Double.doubleToLongBits tells them.";

    @Sentence(promise = 47, value = BITS)
    static void promise47EmptyAndFullTanks() {
        FilterWaterworks works = new FilterWaterworks();
        works.addTank(999);
        Check.due("empty", 0L, works.meanContentBits());
        works.pour(0, 1, 0);
        Check.due("1 litre", 0x3FF0000000000000L, works.meanContentBits());
        works.pour(0, 998, 0);
        Check.due("full", 0x408F380000000000L, works.meanContentBits());
        for (int tank = 1; tank < 8; tank++) {
            works.addTank(10);
        }
        works.draw(0, 998);
        Check.due("the least mean", 0x3FC0000000000000L, works.meanContentBits());
        works.undo();
        works.undo();
        Check.due("a seventh", Double.doubleToLongBits(999.0 / 7.0), works.meanContentBits());
    }

    /** Every sum that so many tanks can have. */
    @Sentence(promise = 47, value = BITS)
    static void promise47EachMean() {
        for (int tanks = 1; tanks <= 8; tanks++) {
            for (int sum = 1; sum <= 999 * tanks; sum += 200) {
                meansFrom(sum, Math.min(999 * tanks, sum + 199), tanks);
            }
        }
    }

    private static void meansFrom(int least, int greatest, int tanks) {
        FilterWaterworks works = new FilterWaterworks();
        int left = least;
        for (int tank = 0; tank < tanks; tank++) {
            works.addTank(999);
            if (left > 0) {
                works.pour(tank, Math.min(999, left), 0);
                left -= Math.min(999, left);
            }
        }
        for (int sum = least; sum <= greatest; sum++) {
            long due = Double.doubleToLongBits((double) sum / (double) tanks);
            Check.due(sum + " litres in " + tanks, due, works.meanContentBits());
            if (sum < greatest) {
                works.pour(sum / 999, 1, 0);
            }
        }
    }

    // ---- checks ----

    private static final String CHECKS = "Checks the state: both ways to find the groups and the bridges, for all pairs of"
            + " tanks the width and, if they are connected, the cleanest way, and the content of all tanks agree, and no"
            + " content is greater than the capacity.";

    @Sentence(promise = 49, value = CHECKS)
    static void promise49EmptyAndFull() {
        Check.due("nothing there", true, new FilterWaterworks().isConsistent());
        for (int tanks = 1; tanks <= 8; tanks++) {
            Check.due("no pipe", true, Edges.tanks(tanks).isConsistent());
            FilterWaterworks row = Edges.row(tanks, 10);
            Check.due("empty tanks", true, row.isConsistent());
            for (int tank = 0; tank < tanks; tank++) {
                row.pour(tank, 10, 255);
            }
            Check.due("full tanks", true, row.isConsistent());
        }
        Check.due("12 closed pipes", true, Edges.pipes(12).isConsistent());
        Check.due("8 tanks and 12 pipes", true, Edges.busy(8, 12).isConsistent());
        Check.due("almost clogged", true, Edges.dirty(19).isConsistent());
        Check.due("clogged", true, Edges.dirty(20).isConsistent());
    }

    @Sentence(promise = 49, value = "Returns true if all of this holds.")
    static void promise49AfterEachStepBack() {
        FilterWaterworks works = Edges.busy();
        while (Check.outcome(works::undo) instanceof Integer) {
            Check.due("undone", true, works.isConsistent());
        }
        works.restore();
        Check.due("restored", true, works.isConsistent());
        Check.run(works, "draw 0 1;draw 0 999");
        Check.due("after a script that fails", true, works.isConsistent());
    }

    @Sentence(promise = 49, value = CHECKS)
    static void promise49ChangesNothing() {
        FilterWaterworks works = Edges.busy();
        works.isConsistent();
        Check.due("everything", Edges.everything(Edges.busy()), Edges.everything(works));
    }
}
