/** What stands before the promises of scripts, changes and exceptions. */
final class ScriptTermsEdges {
    private static final String WAITS = "wait;wait;wait;wait;wait;wait;wait;wait;wait;wait;wait;wait";

    /** A script of 60 characters. */
    static final String LONGEST = "wait;wait;wait;wait;wait;wait;wait;wait;wait;wait 10;wait 10";

    private ScriptTermsEdges() {
    }

    // ---- scripts ----

    private static final String BUFFER = "A script is typed into a buffer of at most 60 characters and then run.";

    @Sentence(BUFFER)
    static void termsBufferOf60Characters() {
        FilterWaterworks works = new FilterWaterworks();
        Check.due("length", 60, LONGEST.length());
        Check.due("run", 11, Check.run(works, LONGEST));
        Check.due("all 60 were read", 29, works.time());
    }

    @Sentence(BUFFER)
    static void termsNoCharacter61() {
        FilterWaterworks works = new FilterWaterworks();
        Check.type(works, LONGEST);
        Check.thrown("61", Edges.STATE, () -> works.type('0'));
        Check.due("run", 11, works.runScript());
        Check.due("the 60 that were typed", 29, works.time());
    }

    /** The script has the form; with all that the fixture allows it runs. */
    private static void formed(String script, int commands) {
        FilterWaterworks works = Edges.pipes(1);
        Check.due("'" + script + "'", commands, Check.run(works, script));
        Check.thrown("'" + script + "' has the form", Edges.ELEMENT, works::errorPosition);
    }

    /** The script has the form, but its command fails. */
    private static void failing(String script) {
        FilterWaterworks works = Edges.pipes(1);
        Check.due("'" + script + "'", "IllegalStateException", Check.run(works, script));
        Check.due("'" + script + "'", 0, works.failedCommand());
        Check.thrown("'" + script + "' has the form", Edges.ELEMENT, works::errorPosition);
    }

    private static void error(String script, int position) {
        FilterWaterworks works = Edges.pipes(1);
        Check.due("'" + script + "'", "IllegalArgumentException", Check.run(works, script));
        Check.due("'" + script + "'", position, works.errorPosition());
        Check.thrown("'" + script + "' does not fail", Edges.ELEMENT, works::failedCommand);
    }

    private static final String FORM = "It has the form below, where braces mean zero or more repetitions, brackets an"
            + " optional part, and a bar an alternative.";

    @Sentence(FORM)
    static void termsZeroOrMoreRepetitions() {
        formed("wait", 1);
        formed("wait;wait", 2);
        formed(WAITS, 12);
        formed("pipe 01/", 1);
        formed("pipe 01/a", 1);
        formed("pipe 01/abcdefgh", 1);
    }

    @Sentence(FORM)
    static void termsOptionalParts() {
        formed("wait", 1);
        formed("wait 1", 1);
        formed("wait 10", 1);
        formed("wait 010", 1);
    }

    @Sentence(FORM)
    static void termsOneOfTheAlternatives() {
        error("tank 10pipe 01/", 7);
        error("tankpipe", 4);
        error("|", 0);
        error("\"wait\"", 0);
        error("[wait]", 0);
    }

    private static final String SCRIPT = "script = command { \";\" command }";

    @Sentence(SCRIPT)
    static void termsEmptyScript() {
        error("", 0);
    }

    @Sentence(SCRIPT)
    static void termsSeparatorsStandBetweenCommands() {
        error(";", 0);
        error(";wait", 0);
        error("wait;", 5);
        error("wait;;wait", 5);
        error("wait; wait", 5);
        error("wait ;wait", 5);
        error("wait,wait", 4);
        error("waitwait", 4);
    }

    @Sentence(SCRIPT)
    static void termsTwelveCommands() {
        formed(WAITS, 12);
        error(WAITS + ";", 60);
        error("wait;wait;wait;wait;wait;wait;wait;wait;wait;wait;wait;wai", 58);
        error("wait;wait;wait;wait;wait;wait;wait;wait;wait;wait;wait;waix", 58);
        error(WAITS + "1", 59);
        error(WAITS + " ", 60);
    }

    private static final String COMMAND = "command = \"tank \" number | \"pipe \" digit digit set | \"pour \" digit \" \""
            + " number set | \"draw \" digit \" \" number | \"valve \" number \" \" digit | \"leak \" number \" \" digit |"
            + " \"clean \" number | \"wait\" [ \" \" number ]";

    @Sentence(COMMAND)
    static void termsTank() {
        formed("tank 10", 1);
        formed("tank 999", 1);
        error("tank", 4);
        error("tank ", 5);
        error("tank/", 4);
        error("tank  10", 5);
        error("tank 10 ", 7);
        error("Tank 10", 0);
        error("tAnk 10", 1);
    }

    @Sentence(COMMAND)
    static void termsPipe() {
        formed("pipe 01/", 1);
        failing("pipe 00/");
        failing("pipe 99/");
        error("pipe ", 5);
        error("pipe 0", 6);
        error("pipe 0/", 6);
        error("pipe 01", 7);
        error("pipe 010/", 7);
        error("pipe 0 1/", 6);
        error("pipe 01 /", 7);
    }

    @Sentence(COMMAND)
    static void termsPour() {
        formed("pour 0 1/", 1);
        formed("pour 1 100/abcdefgh", 1);
        failing("pour 9 1/");
        error("pour ", 5);
        error("pour /", 5);
        error("pour 0", 6);
        error("pour 01 1/", 6);
        error("pour 0 ", 7);
        error("pour 0 /", 7);
        error("pour 0 1", 8);
        error("pour 0 1 /", 8);
    }

    @Sentence(COMMAND)
    static void termsDraw() {
        formed("draw 0 1", 1);
        formed("draw 0 050", 1);
        failing("draw 9 1");
        error("draw ", 5);
        error("draw 0", 6);
        error("draw 00 1", 6);
        error("draw 0 ", 7);
        error("draw 0  1", 7);
        error("draw 0 1/", 8);
    }

    @Sentence(COMMAND)
    static void termsValve() {
        formed("valve 0 4", 1);
        formed("valve 000 0", 1);
        failing("valve 999 0");
        failing("valve 0 9");
        error("valve ", 6);
        error("valve 0", 7);
        error("valve 0 ", 8);
        error("valve  0", 6);
        error("valve 0 10", 9);
        error("valve 0000 1", 9);
    }

    @Sentence(COMMAND)
    static void termsLeak() {
        formed("leak 0 9", 1);
        formed("leak 000 0", 1);
        failing("leak 999 0");
        error("leak ", 5);
        error("leak 0", 6);
        error("leak 0 ", 7);
        error("leak 0 10", 8);
        error("leak 0000 1", 8);
    }

    @Sentence(COMMAND)
    static void termsClean() {
        formed("clean 0", 1);
        formed("clean 000", 1);
        failing("clean 999");
        error("clean", 5);
        error("clean ", 6);
        error("clean  0", 6);
        error("clean 0 0", 7);
        error("clean 0000", 9);
    }

    @Sentence(COMMAND)
    static void termsWait() {
        formed("wait", 1);
        formed("wait 60", 1);
        failing("wait 0");
        failing("wait 61");
        error("wait ", 5);
        error("wait;", 5);
        error("wait1", 4);
        error("wait  1", 5);
        error("wait 1 ", 6);
        error("wait 0000", 8);
    }

    @Sentence("set = \"/\" { letter }")
    static void termsSet() {
        formed("pour 0 1/", 1);
        formed("pour 0 1/a", 1);
        formed("pour 0 1/h", 1);
        formed("pour 0 1/abcdefgh;wait", 2);
        error("pour 0 1//", 9);
        error("pour 0 1/abcdefgh/", 17);
        error("pour 0 1a", 8);
        FilterWaterworks works = Edges.pipes(0);
        Check.run(works, "pipe 01/;pipe 01/abcdefgh;pipe 01/a;pipe 01/h;pipe 01/bg");
        Check.due("no letter", 0, works.mesh(0));
        Check.due("all letters", 255, works.mesh(1));
        Check.due("the first one", 1, works.mesh(2));
        Check.due("the last one", 128, works.mesh(3));
        Check.due("two of them", 66, works.mesh(4));
    }

    @Sentence("number = digit [ digit [ digit ] ]")
    static void termsNumber() {
        FilterWaterworks works = new FilterWaterworks();
        Check.run(works, "wait 1;wait 9");
        Check.due("1 digit", 10, works.time());
        Check.run(works, "wait 10;wait 01;wait 60");
        Check.due("2 digits", 81, works.time());
        Check.run(works, "wait 010;wait 001;wait 060");
        Check.due("3 digits", 152, works.time());
        Check.run(works, "tank 999;tank 100;tank 989");
        Check.due("each digit", "999 100 989", works.capacity(0) + " " + works.capacity(1) + " " + works.capacity(2));
        error("tank ", 5);
        error("tank 0100", 8);
        error("tank 1000", 8);
        error("tank :", 5);
        error("tank /", 5);
        error("tank 1:", 6);
        error("tank 1/", 6);
        error("tank -1", 5);
        error("tank +10", 5);
        failing("tank 000");
        failing("tank 9");
    }

    private static final String LETTERS = "The letters of a set are from 'a' to 'h', and each one comes later in the"
            + " alphabet than the one before.";

    @Sentence(LETTERS)
    static void termsLettersOfASet() {
        for (char letter = 'a'; letter <= 'h'; letter++) {
            formed("pipe 01/" + letter, 1);
        }
        error("pipe 01/`", 8);
        error("pipe 01/i", 8);
        error("pipe 01/A", 8);
        error("pipe 01/H", 8);
        error("pipe 01/ai", 9);
        error("pipe 01/hi", 9);
        error("pipe 01/abcdefghi", 16);
    }

    @Sentence(LETTERS)
    static void termsOrderOfTheLetters() {
        for (char one = 'a'; one <= 'h'; one++) {
            for (char other = 'a'; other <= 'h'; other++) {
                if (one < other) {
                    formed("pipe 01/" + one + other, 1);
                } else {
                    error("pipe 01/" + one + other, 9);
                }
            }
        }
        error("pipe 01/abcdefgha", 16);
    }

    private static final String STANDS = "The commands stand for addTank, addPipe (both tanks and the mesh), pour (tank,"
            + " litres and impurities), draw, setValve, setLeak, cleanFilter and advance, with the arguments in the same"
            + " order; wait without a number advances by 1 minute.";

    private static FilterWaterworks flowing() {
        FilterWaterworks works = Edges.pipes(3);
        works.setValve(0, 1);
        works.advance(1);
        return works;
    }

    /** The script does what the call does. */
    private static void standsFor(String script, Edges.Call call) {
        FilterWaterworks scripted = flowing();
        Check.due(script, 1, Check.run(scripted, script));
        FilterWaterworks called = flowing();
        call.of(called);
        Check.due(script, UndoTest.picture(called), UndoTest.picture(scripted));
    }

    @Sentence(STANDS)
    static void termsWhatCommandsStandFor() {
        standsFor("tank 10", works -> works.addTank(10));
        standsFor("tank 999", works -> works.addTank(999));
        standsFor("pipe 10/ac", works -> works.addPipe(1, 0, 5));
        standsFor("pipe 01/h", works -> works.addPipe(0, 1, 128));
        standsFor("pour 1 2/d", works -> works.pour(1, 2, 8));
        standsFor("draw 0 11", works -> works.draw(0, 11));
        standsFor("draw 1 5", works -> works.draw(1, 5));
        standsFor("valve 2 1", works -> works.setValve(2, 1));
        standsFor("valve 0 0", works -> works.setValve(0, 0));
        standsFor("leak 1 2", works -> works.setLeak(1, 2));
        standsFor("clean 0", works -> works.cleanFilter(0));
        standsFor("wait 3", works -> works.advance(3));
        standsFor("wait 60", works -> works.advance(60));
    }

    @Sentence(STANDS)
    static void termsWaitWithoutANumber() {
        standsFor("wait", works -> works.advance(1));
        FilterWaterworks works = new FilterWaterworks();
        Check.run(works, "wait 7;wait");
        Check.due("the number before does not count", 8, works.time());
        Check.run(works, WAITS);
        Check.due("12 of them", 20, works.time());
    }

    private static final String ALL_OR_NONE = "The commands are executed in order, and either all of them take effect or"
            + " none.";

    @Sentence(ALL_OR_NONE)
    static void termsCommandsInOrder() {
        FilterWaterworks works = new FilterWaterworks();
        String script = "tank 20;tank 10;pipe 01/a;pour 0 20/a;valve 0 1;wait 2";
        Check.due("each one needs those before it", 6, Check.run(works, script));
        Check.due("effect", "0:0-1v1d2*", Check.pipe(works, 0));
        Check.due("content", 10, works.content(1));
        Check.due("later ones win", 2, Check.run(works, "valve 0 2;valve 0 3"));
        Check.due("setting", 3, works.valve(0));
    }

    @Sentence(ALL_OR_NONE)
    static void termsNoneIfOneFails() {
        String[] scripts = {"tank 9", "valve 0 4;tank 9", "tank 9;valve 0 4",
            "wait;wait;wait;wait;wait;wait;wait;wait;wait;tank 9",
            "leak 0 9;clean 0;draw 0 9;pour 1 1/h;pipe 10/;wait 9;tank 9"};
        int[] failed = {0, 1, 0, 9, 6};
        for (int i = 0; i < scripts.length; i++) {
            FilterWaterworks works = flowing();
            Check.due(scripts[i], "IllegalStateException", Check.run(works, scripts[i]));
            Check.due(scripts[i], failed[i], works.failedCommand());
            Check.due("none took effect", UndoTest.picture(flowing()), UndoTest.picture(works));
        }
    }

    private static final String POSITION = "The error position of a script that does not have this form is the index of"
            + " the first character that cannot continue any script of this form, or the length of the script if every"
            + " character can and the end comes too early.";

    private static final String[] WELL_FORMED = {LONGEST, WAITS,
        "tank 999;tank 010;pipe 01/abcdefgh;pour 0 999/aceg;draw 1 9",
        "valve 11 4;leak 000 9;clean 7;wait 60;pipe 10/;pour 1 1/"};

    /** At any place a character that no script has. */
    @Sentence(POSITION)
    static void termsFirstWrongCharacter() {
        for (String script : WELL_FORMED) {
            for (int place = 0; place < script.length(); place++) {
                for (char wrong : new char[] {'~', '!', 'X'}) {
                    error(script.substring(0, place) + wrong + script.substring(place + 1), place);
                }
            }
        }
    }

    /** Broken off at any place: wrong unless a command is whole there. */
    @Sentence(POSITION)
    static void termsEndTooEarly() {
        for (String script : WELL_FORMED) {
            for (int length = 0; length < script.length(); length++) {
                String begun = script.substring(0, length);
                if (!begun.matches("(.*;)?(tank \\d+|pipe \\d\\d/[a-h]*|pour \\d \\d+/[a-h]*|draw \\d \\d+|valve \\d+ \\d"
                        + "|leak \\d+ \\d|clean \\d+|wait( \\d+)?)")) {
                    error(begun, length);
                }
            }
        }
    }

    /** Only the first one counts, and what stands behind it may be right. */
    @Sentence(POSITION)
    static void termsOnlyTheFirstWrongCharacter() {
        error("wait;wait 1x;tank 9;y", 11);
        error("x", 0);
        error("xwait", 0);
        error("wait;xwait", 5);
        error("pa", 1);
        error("pi", 2);
        error("pix", 2);
        error("poi", 2);
        error("cl", 2);
        error("wa;wait", 2);
    }

    /** What would be right behind a whole word is wrong behind the beginning of one. */
    @Sentence(POSITION)
    static void termsArgumentsBehindHalfAWord() {
        error("1", 0);
        error("10/", 0);
        error("t10", 1);
        error("tan10", 3);
        error("pi01/", 2);
        error("valv0 1", 4);
        error("clea0", 4);
        error("wai10", 3);
        error("wai 10", 3);
        error("wait;9", 5);
    }

    // ---- changes ----

    private static final String CHANGE = "A change is a call of addTank, addPipe, pour, draw, setValve, setLeak,"
            + " cleanFilter, advance or runScript that returns normally, even if the state is the same afterwards.";

    /** Three changes, then one more call: it counts as one change or not. */
    private static void counts(String what, int want, Edges.Call call) {
        FilterWaterworks works = new FilterWaterworks();
        works.addTank(100);
        works.addTank(10);
        works.addPipe(0, 1, 0);
        call.of(works);
        Check.due(what, want, works.undo());
    }

    @Sentence(CHANGE)
    static void termsEachChangeCounts() {
        counts("addTank", 3, works -> works.addTank(10));
        counts("addPipe", 3, works -> works.addPipe(0, 1, 0));
        counts("pour", 3, works -> works.pour(0, 1, 0));
        counts("draw", 4, works -> works.pour(0, 1, 0) + works.draw(0, 1));
        counts("setValve", 3, works -> works.setValve(0, 1));
        counts("setLeak", 3, works -> works.setLeak(0, 1));
        counts("cleanFilter", 3, works -> works.cleanFilter(0));
        counts("advance", 3, works -> works.advance(60));
        counts("runScript", 3, works -> Check.run(works, "tank 10;tank 10;wait;wait"));
    }

    @Sentence(CHANGE)
    static void termsChangesToTheSameState() {
        counts("setValve", 3, works -> works.setValve(0, 0));
        counts("setLeak", 3, works -> works.setLeak(0, 0));
        counts("cleanFilter", 3, works -> works.cleanFilter(0));
        counts("runScript", 3, works -> Check.run(works, "valve 0 0"));
        counts("scripts", 4, works -> Check.run(works, "clean 0") + "" + Check.run(works, "leak 0 0"));
    }

    @Sentence(CHANGE)
    static void termsCallsThatThrowAreNoChanges() {
        counts("addTank", 2, works -> Check.outcome(() -> works.addTank(9)));
        counts("addPipe", 2, works -> Check.outcome(() -> works.addPipe(0, 0, 0)));
        counts("pour", 2, works -> Check.outcome(() -> works.pour(0, 101, 0)));
        counts("draw", 2, works -> Check.outcome(() -> works.draw(0, 1)));
        counts("setValve", 2, works -> Check.outcome(() -> works.setValve(0, 5)));
        counts("setLeak", 2, works -> Check.outcome(() -> works.setLeak(0, 10)));
        counts("cleanFilter", 2, works -> Check.outcome(() -> works.cleanFilter(1)));
        counts("advance", 2, works -> Check.outcome(() -> works.advance(61)));
        counts("runScript without the form", 2, works -> Check.run(works, "wait;"));
        counts("runScript that fails", 2, works -> Check.run(works, "wait;tank 9"));
    }

    @Sentence(CHANGE)
    static void termsOtherCallsAreNoChanges() {
        counts("save", 2, FilterWaterworks::save);
        counts("type", 2, works -> works.type('w'));
        counts("renderTank", 2, works -> works.renderTank(0));
        counts("renderPipe", 2, works -> works.renderPipe(0));
        counts("minutesUntilStill", 2, FilterWaterworks::minutesUntilStill);
        counts("isConsistent", 2, FilterWaterworks::isConsistent);
        counts("cleanest", 2, works -> works.cleanest(0, 0));
        counts("undo", 1, FilterWaterworks::undo);
    }

    @Sentence(CHANGE)
    static void termsQuestionsChangeNothing() {
        FilterWaterworks works = Edges.busy();
        for (int index = 0; index < 3; index++) {
            works.capacity(index);
            works.content(index);
            works.impurities(index);
            works.hasImpurity(index, 'a');
            works.tankByContent(index);
            works.fillShare(index);
            works.fillShareBits(index);
            works.firstOf(index);
            works.secondOf(index);
            works.valve(index);
            works.leak(index);
            works.mesh(index);
            works.dirt(index);
            works.isOpen(index);
            works.flow(index);
            works.litresThrough(index);
            works.pipeByDirt(index);
            works.isBridge(index);
            works.outputAt(index);
        }
        works.areConnected(0, 2);
        works.width(0, 2);
        works.widthBySettings(0, 2);
        works.cleanest(1, 2);
        works.cleanestByPasses(1, 2);
        works.groupCount();
        works.groupCountByUnions();
        works.bridgeCount();
        works.bridgeCountByLeavingOut();
        works.minutesUntilStill();
        works.totalContent();
        works.totalContentByAccounts();
        works.meanContent();
        works.meanContentBits();
        works.isConsistent();
        works.errorPosition();
        works.failedCommand();
        Check.due("everything", Edges.everything(Edges.busy()), Edges.everything(works));
    }

    private static final String LATEST_8 = "The latest 8 changes can be undone, the latest one first.";

    @Sentence(LATEST_8)
    static void termsLatest8Changes() {
        for (int changes = 0; changes <= 20; changes++) {
            FilterWaterworks works = new FilterWaterworks();
            for (int change = 1; change <= changes; change++) {
                works.advance(change);
            }
            int time = changes * (changes + 1) / 2;
            for (int undone = 1; undone <= Math.min(8, changes); undone++) {
                Check.due("left", Math.min(8, changes) - undone, works.undo());
                time -= changes + 1 - undone;
                Check.due("time", time, works.time());
            }
            Check.thrown("no more", Edges.ELEMENT, works::undo);
            Check.due("time", time, works.time());
        }
    }

    private static final String COVER = "Undo and the snapshot cover everything except the script buffer, the error"
            + " position, the index of the failed command, the output text and the snapshot itself.";

    /** What a call leads back to, after everything has changed. */
    private static FilterWaterworks coveredBy(Edges.Call back) {
        FilterWaterworks works = Edges.busy(3, 3);
        Check.due("the begun script", 1, works.runScript());
        works.save();
        String before = UndoTest.picture(works);
        Check.due("change", 6, Check.run(works, "tank 77;pipe 30/b;draw 1 4;pour 0 1/g;valve 2 4;leak 2 5"));
        Check.run(works, "wai");
        Check.run(works, "wait;wait;draw 9 9");
        works.renderTank(3);
        Check.type(works, "wait 9;");
        back.of(works);
        Check.due("covered", before, UndoTest.picture(works));
        return works;
    }

    private static void notCovered(FilterWaterworks works) {
        Check.due("error position", 3, works.errorPosition());
        Check.due("failed command", 2, works.failedCommand());
        Check.due("output", "3=0/77", Check.output(works, 6));
        Check.due("buffer", 8, works.type('w'));
        Check.due("what is in the buffer", "IllegalArgumentException", Check.outcome(works::runScript));
        Check.due("all 8 characters", 8, works.errorPosition());
    }

    @Sentence(COVER)
    static void termsWhatUndoCovers() {
        notCovered(coveredBy(FilterWaterworks::undo));
    }

    @Sentence(COVER)
    static void termsWhatTheSnapshotCovers() {
        notCovered(coveredBy(FilterWaterworks::restore));
    }

    @Sentence(COVER)
    static void termsUndoDoesNotCoverTheSnapshot() {
        FilterWaterworks works = new FilterWaterworks();
        works.addTank(10);
        works.save();
        works.addTank(20);
        works.save();
        works.undo();
        works.undo();
        Check.due("no tank", 0, works.tankCount());
        Check.due("the snapshot of two", 2, works.restore());
        Check.due("the second one", 20, works.capacity(1));
    }

    // ---- exceptions ----

    private static final String NOTHING_CHANGES = "A method that throws an exception changes nothing unless its"
            + " description says otherwise.";

    @Sentence(NOTHING_CHANGES)
    static void termsRefusedChanges() {
        Edges.refused("addTank", Edges.ARGUMENT, works -> works.addTank(9));
        Edges.refused("addTank", Edges.STATE, () -> Edges.busy(8, 12), works -> works.addTank(10));
        Edges.refused("addPipe", Edges.INDEX, works -> works.addPipe(0, 3, 0));
        Edges.refused("addPipe", Edges.ARGUMENT, works -> works.addPipe(0, 1, 256));
        Edges.refused("addPipe", Edges.STATE, () -> Edges.busy(8, 12), works -> works.addPipe(0, 1, 0));
        Edges.refused("pour", Edges.ARGUMENT, works -> works.pour(2, 1, 256));
        Edges.refused("pour", Edges.UNSUPPORTED, works -> works.pour(2, 999, 255));
        Edges.refused("draw", Edges.ARGUMENT, works -> works.draw(0, 0));
        Edges.refused("draw", Edges.UNSUPPORTED, works -> works.draw(0, 999));
        Edges.refused("setValve", Edges.ARGUMENT, works -> works.setValve(0, 5));
        Edges.refused("setLeak", Edges.ARGUMENT, works -> works.setLeak(0, 10));
        Edges.refused("cleanFilter", Edges.INDEX, works -> works.cleanFilter(3));
        Edges.refused("advance", Edges.ARGUMENT, works -> works.advance(61));
    }

    @Sentence(NOTHING_CHANGES)
    static void termsRefusedQuestions() {
        Edges.refused("hasImpurity", Edges.ARGUMENT, works -> works.hasImpurity(0, 'i'));
        Edges.refused("tankByContent", Edges.ELEMENT, works -> works.tankByContent(3));
        Edges.refused("pipeByDirt", Edges.ELEMENT, works -> works.pipeByDirt(3));
        Edges.refused("cleanest", Edges.ELEMENT, () -> Edges.busy(4, 2), works -> works.cleanest(0, 3));
        Edges.refused("cleanestByPasses", Edges.ELEMENT, () -> Edges.busy(4, 2), works -> works.cleanestByPasses(0, 3));
        Edges.refused("renderTank", Edges.INDEX, works -> works.renderTank(3));
        Edges.refused("renderPipe", Edges.INDEX, works -> works.renderPipe(3));
        Edges.refused("outputAt", Edges.INDEX, works -> works.outputAt(99));
        Edges.refused("type", Edges.ARGUMENT, works -> works.type('\n'));
    }

    private static final String LISTED_FIRST = "If several exceptions apply, the one that is listed first is thrown.";

    @Sentence(LISTED_FIRST)
    static void termsFirstExceptionOfAddTank() {
        Edges.refused("capacity, 8 tanks", Edges.ARGUMENT, () -> Edges.busy(8, 12), works -> works.addTank(9));
        Edges.refused("capacity, 8 tanks", Edges.ARGUMENT, () -> Edges.busy(8, 12), works -> works.addTank(1000));
    }

    @Sentence(LISTED_FIRST)
    static void termsFirstExceptionOfAddPipe() {
        Edges.refused("no tank, the same", Edges.INDEX, works -> works.addPipe(3, 3, 0));
        Edges.refused("no first tank, mesh", Edges.INDEX, works -> works.addPipe(-1, 0, 256));
        Edges.refused("no second tank, mesh", Edges.INDEX, works -> works.addPipe(0, 3, -1));
        Edges.refused("no tank, 12 pipes", Edges.INDEX, () -> Edges.busy(7, 12), works -> works.addPipe(0, 7, 0));
        Edges.refused("the same, 12 pipes", Edges.ARGUMENT, () -> Edges.busy(8, 12), works -> works.addPipe(7, 7, 0));
        Edges.refused("mesh, 12 pipes", Edges.ARGUMENT, () -> Edges.busy(8, 12), works -> works.addPipe(0, 7, 256));
        Edges.refused("all", Edges.INDEX, () -> Edges.busy(8, 12), works -> works.addPipe(8, 8, 256));
    }

    @Sentence(LISTED_FIRST)
    static void termsFirstExceptionOfPourAndDraw() {
        Edges.refused("no tank, litres", Edges.INDEX, works -> works.pour(3, 0, 0));
        Edges.refused("no tank, impurities", Edges.INDEX, works -> works.pour(-1, 1, 256));
        Edges.refused("litres, too many", Edges.ARGUMENT, works -> works.pour(0, 1000, 0));
        Edges.refused("impurities, too many litres", Edges.ARGUMENT, works -> works.pour(0, 999, 256));
        Edges.refused("impurities, too many litres", Edges.ARGUMENT, works -> works.pour(0, 999, -1));
        Edges.refused("no tank, litres", Edges.INDEX, works -> works.draw(3, 0));
        Edges.refused("litres, too many", Edges.ARGUMENT, works -> works.draw(0, 1000));
    }

    @Sentence(LISTED_FIRST)
    static void termsFirstExceptionOfThePipesChanges() {
        Edges.refused("no pipe, setting", Edges.INDEX, works -> works.setValve(3, 5));
        Edges.refused("no pipe, setting", Edges.INDEX, works -> works.setValve(-1, -1));
        Edges.refused("no pipe, rate", Edges.INDEX, works -> works.setLeak(3, 10));
        Edges.refused("no pipe, rate", Edges.INDEX, works -> works.setLeak(-1, -1));
    }

    @Sentence(LISTED_FIRST)
    static void termsFirstExceptionOfQuestions() {
        Edges.refused("no tank, letter", Edges.INDEX, works -> works.hasImpurity(3, 'i'));
        Edges.refused("no tank, so not connected", Edges.INDEX, works -> works.cleanest(0, 3));
        Edges.refused("no tank, so not connected", Edges.INDEX, works -> works.cleanest(-1, 0));
        Edges.refused("no tank, so not connected", Edges.INDEX, works -> works.cleanestByPasses(0, 3));
        Edges.refused("no tank, so not connected", Edges.INDEX, works -> works.cleanestByPasses(-1, 0));
    }

    @Sentence(LISTED_FIRST)
    static void termsFirstExceptionOfScripts() {
        FilterWaterworks works = new FilterWaterworks();
        Check.due("a command that fails, no form", "IllegalArgumentException", Check.run(works, "tank 9;wait;x"));
        Check.due("error", 12, works.errorPosition());
        Check.thrown("no failed command", Edges.ELEMENT, works::failedCommand);
        Check.type(works, LONGEST);
        Check.thrown("no such character, full", Edges.ARGUMENT, () -> works.type((char) 127));
    }
}
