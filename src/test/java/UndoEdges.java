/** The boundaries that the promises 57 to 59 name. */
final class UndoEdges {
    private UndoEdges() {
    }

    private static FilterWaterworks minutes(int count) {
        FilterWaterworks works = new FilterWaterworks();
        for (int minute = 0; minute < count; minute++) {
            works.advance(1);
        }
        return works;
    }

    // ---- undo ----

    private static final String LATEST = "Undoes the latest change that has not been undone.";

    @Sentence(promise = 57, value = LATEST)
    static void promise57LatestFirst() {
        FilterWaterworks works = Edges.tanks(2);
        works.addPipe(0, 1, 0);
        works.setValve(0, 4);
        works.setLeak(0, 9);
        works.undo();
        Check.due("the leak", "4 0", works.valve(0) + " " + works.leak(0));
        works.undo();
        Check.due("then the valve", "0 0", works.valve(0) + " " + works.leak(0));
        works.undo();
        Check.due("then the pipe", 0, works.pipeCount());
    }

    /** A change that has been undone is passed over. */
    @Sentence(promise = 57, value = LATEST)
    static void promise57NotWhatHasBeenUndone() {
        FilterWaterworks works = new FilterWaterworks();
        works.advance(1);
        works.advance(10);
        works.undo();
        works.advance(20);
        Check.due("the 10 are undone", 21, works.time());
        Check.due("the 20", 1, works.undo());
        Check.due("before them", 1, works.time());
        Check.due("the 1, not the 10", 0, works.undo());
        Check.due("before it", 0, works.time());
        Check.thrown("no more", Edges.ELEMENT, works::undo);
    }

    private static final String LEFT = "Returns the number of changes that can still be undone.";

    @Sentence(promise = 57, value = LEFT)
    static void promise57NoneTo8Left() {
        for (int changes = 1; changes <= 18; changes++) {
            FilterWaterworks works = minutes(changes);
            int kept = Math.min(8, changes);
            for (int left = kept - 1; left >= 0; left--) {
                Check.due(changes + " changes", left, works.undo());
            }
            Check.due("time", changes - kept, works.time());
        }
    }

    /** After undone changes there is room for as many new ones. */
    @Sentence(promise = 57, value = LEFT)
    static void promise57UndoneAndChangedAgain() {
        for (int undone = 1; undone <= 8; undone++) {
            for (int again = 1; again <= undone; again++) {
                FilterWaterworks works = minutes(11);
                for (int time = 0; time < undone; time++) {
                    works.undo();
                }
                for (int time = 0; time < again; time++) {
                    works.advance(30);
                }
                Check.due("left", 8 - undone + again - 1, works.undo());
                Check.due("time", 11 - undone + 30 * (again - 1), works.time());
            }
        }
    }

    @Sentence(promise = 57, value = "Throws `NoSuchElementException` if there is nothing to undo")
    static void promise57NothingToUndo() {
        Check.thrown("new", Edges.ELEMENT, () -> new FilterWaterworks().undo());
        for (int changes = 1; changes <= 9; changes++) {
            FilterWaterworks works = minutes(changes);
            for (int undone = 0; undone < Math.min(8, changes); undone++) {
                works.undo();
            }
            Check.thrown(changes + " changes", Edges.ELEMENT, works::undo);
            Check.thrown("asked again", Edges.ELEMENT, works::undo);
            Check.due("time", changes == 9 ? 1 : 0, works.time());
            works.advance(5);
            Check.due("a new one", 0, works.undo());
        }
        Edges.refused("nothing to undo", Edges.ELEMENT, UndoEdges::restored, FilterWaterworks::undo);
    }

    private static FilterWaterworks restored() {
        FilterWaterworks works = Edges.busy();
        works.restore();
        return works;
    }

    // ---- save and restore ----

    private static final String SAVE = "Takes a snapshot, which replaces an earlier one.";

    @Sentence(promise = 58, value = SAVE)
    static void promise58ReplacesTheEarlierOne() {
        FilterWaterworks works = new FilterWaterworks();
        for (int tanks = 0; tanks <= 8; tanks++) {
            Check.due("saved", tanks, works.save());
            works.advance(7);
            Check.due("restored", tanks, works.restore());
            Check.due("the latest one", 0, works.time());
            if (tanks < 8) {
                works.addTank(10 + tanks);
            }
        }
    }

    /** What is changed after the snapshot is not changed in it. */
    @Sentence(promise = 58, value = SAVE)
    static void promise58StaysAsItWas() {
        FilterWaterworks works = Edges.busy(8, 12);
        works.runScript();
        works.save();
        String saved = UndoTest.picture(works);
        works.draw(1, 1);
        works.setLeak(11, 9);
        works.setValve(11, 4);
        works.advance(60);
        works.undo();
        works.restore();
        Check.due("as it was", saved, UndoTest.picture(works));
    }

    @Sentence(promise = 58, value = "Returns the number of tanks.")
    static void promise58NoneToEightTanks() {
        for (int tanks = 0; tanks <= 8; tanks++) {
            Check.due("tanks", tanks, Edges.tanks(tanks).save());
        }
    }

    private static final String KEPT = "Restores the snapshot, which is kept.";

    @Sentence(promise = 59, value = KEPT)
    static void promise59IsKept() {
        FilterWaterworks works = Edges.busy();
        works.runScript();
        works.save();
        String saved = UndoTest.picture(works);
        for (int time = 0; time < 3; time++) {
            works.pour(2, 1, 128);
            works.advance(10 + time);
            works.cleanFilter(0);
            Check.due("tanks", 3, works.restore());
            Check.due("the same again", saved, UndoTest.picture(works));
        }
        works.restore();
        Check.due("twice at once", saved, UndoTest.picture(works));
    }

    @Sentence(promise = 59, value = KEPT)
    static void promise59AnEmptySnapshot() {
        FilterWaterworks works = new FilterWaterworks();
        works.save();
        for (int tank = 0; tank < 8; tank++) {
            works.addTank(10);
        }
        for (int pipe = 0; pipe < 12; pipe++) {
            works.addPipe(0, 1, 0);
        }
        Check.due("no tank", 0, works.restore());
        Check.due("nothing", "0 0 0", works.tankCount() + " " + works.pipeCount() + " " + works.time());
        Check.due("17", 17L, works.fingerprint());
        Check.due("room for tanks", 0, works.addTank(10));
    }

    @Sentence(promise = 59, value = "Afterwards there is nothing to undo.")
    static void promise59NothingToUndo() {
        for (int changes = 0; changes <= 9; changes++) {
            FilterWaterworks works = minutes(changes);
            works.save();
            works.restore();
            Check.thrown(changes + " changes before", Edges.ELEMENT, works::undo);
            Check.due("time", changes, works.time());
            works.advance(1);
            works.advance(1);
            Check.due("a new one", 1, works.undo());
            Check.due("another new one", 0, works.undo());
            Check.thrown("no more", Edges.ELEMENT, works::undo);
            Check.due("the state of the snapshot", changes, works.time());
        }
    }

    @Sentence(promise = 59, value = "Throws `IllegalStateException` if there is no snapshot")
    static void promise59NoSnapshot() {
        Check.thrown("new", Edges.STATE, () -> new FilterWaterworks().restore());
        Edges.refused("never saved", Edges.STATE, () -> Edges.row(8, 100), FilterWaterworks::restore);
        FilterWaterworks works = Edges.tanks(8);
        Check.thrown("after 16 changes", Edges.STATE, works::restore);
        Check.due("they can be undone", 7, works.undo());
        works.save();
        Check.due("saved", 8, works.restore());
    }

    @Sentence(promise = 59, value = "Returns the number of tanks.")
    static void promise59NoneToEightTanks() {
        for (int tanks = 0; tanks <= 8; tanks++) {
            FilterWaterworks works = Edges.tanks(tanks);
            works.save();
            Check.outcome(() -> works.addTank(10));
            Check.due("of the snapshot", tanks, works.restore());
        }
    }
}
