/** The boundaries that the promises 53 to 56 name. */
final class ScriptsEdges {
    private ScriptsEdges() {
    }

    // ---- type ----

    @Sentence(promise = 53, value = "Throws `IllegalArgumentException` if the character code is not between 32 and 126")
    static void promise53Characters() {
        for (int code = 32; code <= 126; code++) {
            Check.due("code " + code, 1, new FilterWaterworks().type((char) code));
        }
        for (int code : new int[] {0, 1, 9, 10, 30, 31, 127, 128, 160, 255, 256 + 'w', 0x8000, 0xFFFF}) {
            Edges.refused("code " + code, Edges.ARGUMENT, works -> works.type((char) code));
        }
    }

    private static final String FULL = "Throws `IllegalStateException` if the script buffer has 60 characters";

    private static FilterWaterworks typed(int length) {
        FilterWaterworks works = new FilterWaterworks();
        Check.type(works, ScriptTermsEdges.LONGEST.substring(0, length));
        return works;
    }

    @Sentence(promise = 53, value = FULL)
    static void promise53EmptyAndFullBuffer() {
        for (int length = 0; length < 60; length++) {
            Check.due("length", length + 1, typed(length).type(';'));
        }
        Check.thrown("full", Edges.STATE, () -> typed(60).type(';'));
        Edges.refused("the least", Edges.STATE, () -> typed(60), works -> works.type(' '));
        Edges.refused("the greatest", Edges.STATE, () -> typed(60), works -> works.type('~'));
    }

    @Sentence(promise = 53, value = FULL)
    static void promise53EmptyAgain() {
        FilterWaterworks works = typed(60);
        Check.due("run", 11, works.runScript());
        Check.type(works, ScriptTermsEdges.LONGEST);
        Check.thrown("full again", Edges.STATE, () -> works.type(';'));
        works.undo();
        Check.thrown("undo does not empty it", Edges.STATE, () -> works.type(';'));
        works.save();
        works.restore();
        Check.thrown("nor does restore", Edges.STATE, () -> works.type(';'));
    }

    // ---- runScript ----

    private static final String EMPTY = "The buffer is empty afterwards, also if an exception is thrown.";

    private static void emptyAfter(String script, Object want) {
        FilterWaterworks works = new FilterWaterworks();
        Check.due("'" + script + "'", want, Check.run(works, script));
        Check.due("'" + script + "', then the first character", 1, works.type('w'));
        Check.type(works, "ait");
        Check.due("'" + script + "', then another script", 1, works.runScript());
    }

    @Sentence(promise = 54, value = EMPTY)
    static void promise54EmptyAfterwards() {
        emptyAfter("wait", 1);
        emptyAfter(ScriptTermsEdges.LONGEST, 11);
    }

    @Sentence(promise = 54, value = EMPTY)
    static void promise54EmptyWithoutTheForm() {
        emptyAfter("", "IllegalArgumentException");
        emptyAfter("x", "IllegalArgumentException");
        emptyAfter("wait;", "IllegalArgumentException");
        emptyAfter(ScriptTermsEdges.LONGEST.substring(0, 59) + "x", "IllegalArgumentException");
    }

    @Sentence(promise = 54, value = EMPTY)
    static void promise54EmptyAfterAFailure() {
        emptyAfter("tank 9", "IllegalStateException");
        emptyAfter("wait;wait;wait;wait;wait;wait;wait;wait;wait;wait 1;tank 009", "IllegalStateException");
    }

    @Sentence(promise = 54, value = "Returns the number of commands.")
    static void promise54OneToTwelveCommands() {
        StringBuilder script = new StringBuilder("wait");
        for (int commands = 1; commands <= 12; commands++) {
            FilterWaterworks works = new FilterWaterworks();
            Check.due("commands", commands, Check.run(works, script.toString()));
            Check.due("minutes", commands, works.time());
            script.append(";wait");
        }
    }

    private static final String NO_FORM = "Throws `IllegalArgumentException` if the script does not have the required form;"
            + " errorPosition then returns its error position";

    @Sentence(promise = 54, value = NO_FORM)
    static void promise54WithoutTheForm() {
        String[] scripts = {"", "w", "wait;", "wait;tank", "tank 1000", "pipe 01",
            "wait;wait;wait;wait;wait;wait;wait;wait;x"};
        int[] positions = {0, 1, 5, 9, 8, 7, 40};
        for (int i = 0; i < scripts.length; i++) {
            FilterWaterworks works = Edges.busy();
            works.runScript();
            String before = UndoTest.picture(works);
            Check.due(scripts[i], "IllegalArgumentException", Check.run(works, scripts[i]));
            Check.due(scripts[i], positions[i], works.errorPosition());
            Check.due("the failed command stays", 1, works.failedCommand());
            Check.due("no command was run", before, UndoTest.picture(works));
            Check.due("the changes can be undone as before", 7, works.undo());
        }
    }

    private static final String FAILS = "Throws `IllegalStateException` if the method for a command throws an exception; no"
            + " command takes effect, and failedCommand then returns the index of that command";

    private static void fails(String script, int command) {
        FilterWaterworks works = Edges.busy(8, 12);
        works.runScript();
        String before = UndoTest.picture(works);
        Check.due(script, "IllegalStateException", Check.run(works, script));
        Check.due(script, command, works.failedCommand());
        Check.due("the error position stays", 3, works.errorPosition());
        Check.due("no command takes effect", before, UndoTest.picture(works));
        Check.due("the changes can be undone as before", 7, works.undo());
    }

    /** One script for each exception that a method of a command can throw. */
    @Sentence(promise = 54, value = FAILS)
    static void promise54EachException() {
        fails("tank 009", 0);
        fails("tank 10", 0);
        fails("pipe 81/", 0);
        fails("pipe 18/", 0);
        fails("pipe 11/", 0);
        fails("pipe 01/", 0);
        fails("pour 8 1/", 0);
        fails("pour 7 0/", 0);
        fails("pour 7 251/", 0);
        fails("draw 8 1", 0);
        fails("draw 7 0", 0);
        fails("draw 7 1", 0);
        fails("valve 12 1", 0);
        fails("valve 0 5", 0);
        fails("leak 12 1", 0);
        fails("clean 12", 0);
        fails("wait 0", 0);
        fails("wait 61", 0);
    }

    /** The last values that are allowed do not fail. */
    @Sentence(promise = 54, value = FAILS)
    static void promise54LastAllowedValues() {
        FilterWaterworks works = Edges.tanks(7);
        Check.due("the eighth tank", 2, Check.run(works, "tank 10;pour 7 10/abcdefgh"));
        Check.due("the twelfth pipe", 2, Check.run(works, "pipe 76/;pipe 67/abcdefgh"));
        for (int pipe = 2; pipe < 12; pipe++) {
            Check.due("pipe", 1, Check.run(works, "pipe 07/"));
        }
        Check.due("it", 2, Check.run(works, "valve 11 4;leak 11 9"));
        Check.due("all", 3, Check.run(works, "draw 7 10;clean 11;wait 60"));
        Check.due("full", 1, Check.run(works, "pour 0 50/"));
        Check.thrown("none has failed", Edges.ELEMENT, works::failedCommand);
    }

    @Sentence(promise = 54, value = FAILS)
    static void promise54FirstAndLastCommand() {
        fails("tank 9;valve 0 4;leak 0 9;clean 0;draw 1 1;pour 2 1/h;wait", 0);
        fails("valve 0 4;leak 0 8;clean 1;draw 1 1;pour 2 1/h;wait;tank 9", 6);
        fails("wait;wait;wait;wait;wait;wait;wait;wait;wait;wait;tank 9", 10);
        fails("wait;tank 9;wait;wait 0;wait;wait", 1);
    }

    /** A method may refuse what it would not before the commands in front of it. */
    @Sentence(promise = 54, value = FAILS)
    static void promise54FailsByTheCommandsBefore() {
        FilterWaterworks works = Edges.tanks(7);
        Check.due("a ninth tank", "IllegalStateException", Check.run(works, "tank 10;tank 10"));
        Check.due("command", 1, works.failedCommand());
        Check.due("tanks", 7, works.tankCount());
        Check.due("drawn already", "IllegalStateException", Check.run(works, "draw 0 50;draw 0 1"));
        Check.due("content", 50, works.content(0));
        Check.due("impurities", 1, works.impurities(0));
        Check.due("drawn", 0, works.drawnTotal());
    }

    // ---- errorPosition and failedCommand ----

    private static final String NO_SCRIPT = "Throws `NoSuchElementException` if there was no such script";

    @Sentence(promise = 55, value = NO_SCRIPT)
    static void promise55NoSuchScript() {
        FilterWaterworks works = new FilterWaterworks();
        Check.thrown("no script", Edges.ELEMENT, works::errorPosition);
        Check.run(works, "wait");
        Check.thrown("one with the form", Edges.ELEMENT, works::errorPosition);
        Check.run(works, "tank 9");
        Check.thrown("one that fails", Edges.ELEMENT, works::errorPosition);
        Check.type(works, "x");
        Check.thrown("one that is not run", Edges.ELEMENT, works::errorPosition);
        Check.outcome(works::runScript);
        Check.due("the least position", 0, works.errorPosition());
        Edges.refused("no script", Edges.ELEMENT, () -> Edges.tanks(2), FilterWaterworks::errorPosition);
    }

    @Sentence(promise = 55, value = "Returns the error position of the latest script that did not have the required form.")
    static void promise55LatestScript() {
        FilterWaterworks works = new FilterWaterworks();
        Check.run(works, ScriptTermsEdges.LONGEST.substring(0, 55));
        Check.due("an end too early", 55, works.errorPosition());
        Check.run(works, "wait;wait;wait;wait;wait;wait;wait;wait;wait;wait;wait;wait;");
        Check.due("the greatest position", 60, works.errorPosition());
        Check.run(works, "wait");
        Check.due("not of one with the form", 60, works.errorPosition());
        Check.run(works, "tank 9");
        Check.due("not of one that fails", 60, works.errorPosition());
        works.undo();
        Check.due("undo does not matter", 60, works.errorPosition());
        Check.run(works, "");
        Check.due("the latest one", 0, works.errorPosition());
        Check.due("asked again", 0, works.errorPosition());
    }

    @Sentence(promise = 56, value = NO_SCRIPT)
    static void promise56NoSuchScript() {
        FilterWaterworks works = new FilterWaterworks();
        Check.thrown("no script", Edges.ELEMENT, works::failedCommand);
        Check.run(works, "wait");
        Check.thrown("one that takes effect", Edges.ELEMENT, works::failedCommand);
        Check.run(works, "x");
        Check.thrown("one without the form", Edges.ELEMENT, works::failedCommand);
        Check.thrown("a call that is refused", Edges.ARGUMENT, () -> works.addTank(9));
        Check.thrown("which is no script", Edges.ELEMENT, works::failedCommand);
        Check.run(works, "tank 9");
        Check.due("the least index", 0, works.failedCommand());
        Edges.refused("no script", Edges.ELEMENT, () -> Edges.tanks(2), FilterWaterworks::failedCommand);
    }

    @Sentence(promise = 56, value = "Returns the index of the command that failed in the latest script with a failed"
            + " command.")
    static void promise56LatestScript() {
        FilterWaterworks works = new FilterWaterworks();
        Check.run(works, "wait;wait;wait;wait;wait;wait;wait;wait;wait;wait;wait 0");
        Check.due("the eleventh", 10, works.failedCommand());
        Check.run(works, "wait");
        Check.due("not of one that takes effect", 10, works.failedCommand());
        Check.run(works, "tank 9;x");
        Check.due("not of one without the form", 10, works.failedCommand());
        works.undo();
        Check.due("undo does not matter", 10, works.failedCommand());
        Check.run(works, "wait;tank 9");
        Check.due("the latest one", 1, works.failedCommand());
        Check.due("asked again", 1, works.failedCommand());
    }

    @Sentence(promise = 56, value = "Returns the index of the command, counted from 0.")
    static void promise56CountedFrom0() {
        StringBuilder waits = new StringBuilder();
        for (int command = 0; command <= 10; command++) {
            FilterWaterworks works = new FilterWaterworks();
            Check.run(works, waits + "wait 0");
            Check.due("command", command, works.failedCommand());
            waits.append("wait;");
        }
    }
}
