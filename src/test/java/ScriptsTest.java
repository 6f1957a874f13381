import java.util.NoSuchElementException;

/** Promises 53 to 56. */
final class ScriptsTest {
    private static final Class<IllegalArgumentException> ARGUMENT = IllegalArgumentException.class;
    private static final Class<IllegalStateException> STATE = IllegalStateException.class;

    private ScriptsTest() {
    }

    static void promise53() {
        FilterWaterworks works = new FilterWaterworks();
        for (char wrong : new char[] {31, 127, 0, 233, Character.MAX_VALUE}) {
            Check.thrown("character", ARGUMENT, () -> works.type(wrong));
        }
        Check.due("least", 1, works.type(' '));
        Check.due("greatest", 2, works.type('~'));
        for (int length = 3; length <= 60; length++) {
            Check.due("length", length, works.type('x'));
        }
        Check.thrown("full", STATE, () -> works.type('x'));
        Check.thrown("argument first", ARGUMENT, () -> works.type((char) 31));
        Check.thrown("run", ARGUMENT, works::runScript);
        Check.due("empty again", 1, works.type('x'));
    }

    static void promise54EachCommand() {
        FilterWaterworks works = new FilterWaterworks();
        Check.due("tank", 1, Check.run(works, "tank 100"));
        Check.due("tanks", 2, Check.run(works, "tank 050;tank 999"));
        Check.due("pipe", 1, Check.run(works, "pipe 21/acegh"));
        Check.due("pipes", 2, Check.run(works, "pipe 01/;pipe 12/abcdefgh"));
        Check.due("pour", 1, Check.run(works, "pour 0 80/bdf"));
        Check.due("valve", 2, Check.run(works, "valve 0 4;valve 001 3"));
        Check.due("leak", 1, Check.run(works, "leak 1 7"));
        Check.due("wait", 1, Check.run(works, "wait"));
        Check.due("draw", 1, Check.run(works, "draw 0 5"));
        Check.due("tank 0", "0=60/100:bdf", Check.tank(works, 0));
        Check.due("tank 1", "1=8/50:bdf", Check.tank(works, 1));
        Check.due("pipe 1", "1:0-1v3d0l7*", Check.pipe(works, 1));
        Check.due("mesh", 0b11010101, works.mesh(0));
        Check.due("all letters", 255, works.mesh(2));
        Check.due("wait", 1, Check.run(works, "wait 10"));
        Check.due("time", 11, works.time());
        Check.due("dirt", 0, works.dirt(0));
        Check.due("waits", 12, Check.run(works, "wait;wait;wait;wait;wait;wait;wait;wait;wait;wait;wait;wait"));
        Check.due("time", 23, works.time());
        Check.due("consistent", true, works.isConsistent());
    }

    static void promise54Clean() {
        FilterWaterworks works = ChangesTest.pair(200, 3, 3, 1);
        Check.due("clean", 2, Check.run(works, "wait 3;clean 0"));
        Check.due("dirt", 0, works.dirt(0));
        Check.due("litres", 15, works.litresThrough(0));
    }

    static void promise54AllOrNone() {
        FilterWaterworks works = ChangesTest.pair(100, 3, 3, 1);
        works.advance(2);
        long print = works.fingerprint();
        Object answer = Check.run(works, "wait 2;leak 0 4;tank 20;draw 0 50;pipe 00/;wait");
        Check.due("fails", "IllegalStateException", answer);
        Check.due("command", 4, works.failedCommand());
        Check.due("state", print, works.fingerprint());
        Check.due("time", 2, works.time());
        Check.due("drawn", 0, works.drawnTotal());
        Check.due("litres", 10, works.litresThrough(0));
        Check.due("buffer", 1, works.type('w'));
        Check.due("form", "IllegalArgumentException", Check.run(works, "ait 2;wait 3x"));
        Check.due("nothing was run", 2, works.time());
        Check.due("empty afterwards", "IllegalArgumentException", Check.run(works, ""));
        Check.due("still works", 1, Check.run(works, "wait"));
        Check.due("buffer", 1, works.type('w'));
    }

    /** Each method's own exceptions make a command fail. */
    static void promise54EachFailure() {
        String[] failing = {"tank 9", "tank 0", "pipe 02/", "pipe 20/", "pipe 11/",
            "pour 2 1/", "pour 0 0/", "pour 0 101/", "draw 2 1", "draw 0 0", "draw 0 101",
            "valve 1 1", "valve 0 5", "leak 1 1", "valve 999 1",
            "clean 1", "wait 0", "wait 61", "wait 999"};
        for (String script : failing) {
            FilterWaterworks works = ChangesTest.pair(100, 3, 3, 1);
            Check.due(script, "IllegalStateException", Check.run(works, script));
            Check.due(script, 0, works.failedCommand());
            Check.thrown("no error", NoSuchElementException.class, works::errorPosition);
        }
        FilterWaterworks works = new FilterWaterworks();
        Check.due("seven", 7, Check.run(works, "tank 10;tank 10;tank 10;tank 10;tank 10;tank 10;tank 10"));
        Check.due("ninth", "IllegalStateException", Check.run(works, "tank 10;tank 10"));
        Check.due("command", 1, works.failedCommand());
        Check.due("none of them", 7, works.tankCount());
    }

    private static void error(String script, int position) {
        FilterWaterworks works = new FilterWaterworks();
        Check.due("'" + script + "'", "IllegalArgumentException", Check.run(works, script));
        Check.due("'" + script + "'", position, works.errorPosition());
        Check.thrown("no failure", NoSuchElementException.class, works::failedCommand);
        Check.due("no change", "NoSuchElementException", Check.outcome(works::undo));
    }

    static void promise55Words() {
        Check.thrown("none yet", NoSuchElementException.class, () -> new FilterWaterworks().errorPosition());
        error("", 0);
        error(" tank 10", 0);
        error("Tank 10", 0);
        error(";", 0);
        error("p", 1);
        error("pa", 1);
        error("pi", 2);
        error("po", 2);
        error("pip", 3);
        error("pipr", 3);
        error("poue", 3);
        error("tan 10", 3);
        error("tank10", 4);
        error("tank", 4);
        error("tank ", 5);
        error("drew 0 1", 2);
        error("valve", 5);
        error("leak", 4);
        error("lear 0 1", 3);
        error("clea 1", 4);
        error("clean1", 5);
        error("wai", 3);
        error("waits", 4);
    }

    static void promise55Arguments() {
        error("tank x", 5);
        error("tank 1000", 8);
        error("tank 10 ", 7);
        error("tank  10", 5);
        error("tank -10", 5);
        error("pipe 0", 6);
        error("pipe 0 1/", 6);
        error("pipe 01", 7);
        error("pipe 012/", 7);
        error("pipe 01/i", 8);
        error("pipe 01/aa", 9);
        error("pipe 01/acb", 10);
        error("pipe 01/hg", 9);
        error("pipe 01/A", 8);
        error("pour 0", 6);
        error("pour 10 5/", 6);
        error("pour 0 5", 8);
        error("pour 0 /", 7);
        error("pour 0 1234/", 10);
        error("pour 0 5/ab ", 11);
        error("draw 0 1/", 8);
        error("draw 00 1", 6);
        error("draw 0 ", 7);
        error("draw 0 1234", 10);
        error("valve 12 34", 10);
        error("valve 1234 5", 9);
        error("valve 1", 7);
        error("leak 0 x", 7);
        error("leak 0 10", 8);
        error("clean", 5);
        error("clean x", 6);
        error("clean 1234", 9);
        error("wait ", 5);
        error("wait x", 5);
        error("wait 1234", 8);
        error("wait1", 4);
        error("wait  1", 5);
    }

    static void promise55Lists() {
        error("wait;", 5);
        error("wait; wait", 5);
        error("wait ;wait", 5);
        error("wait;;wait", 5);
        error("wait,wait", 4);
        error("wait;tank 10;", 13);
        error("wait;tank 10;x", 13);
        error("wait;tank 10;va;wait", 15);
        error("wait;wait;wait;wait;wait;wait;wait;wait;wait;wait;wait;wait;", 60);
        error("wait;wait;wait;wait;wait;wait;wait;wait;wait;wait;wait;tank ", 60);
        error("wait;wait;wait;wait;wait;wait;wait;wait;wait;wait;wait;wait~", 59);
    }

    /** What stood in the buffer before does not count any more. */
    static void promise55ShorterScripts() {
        FilterWaterworks works = new FilterWaterworks();
        Check.due("long", 2, Check.run(works, "tank 100;wait 9"));
        for (String begun : new String[] {"tan", "tank ", "tank 100;wai", "tank 100;wait "}) {
            Check.due(begun, "IllegalArgumentException", Check.run(works, begun));
            Check.due(begun, begun.length(), works.errorPosition());
        }
        Check.due("fewer digits", 1, Check.run(works, "tank 10"));
        Check.due("capacity", 10, works.capacity(1));
    }

    static void promise55Latest() {
        FilterWaterworks works = new FilterWaterworks();
        Check.run(works, "tank");
        Check.run(works, "tank 100");
        Check.run(works, "tank 1");
        Check.due("later scripts with the form change nothing", 4, works.errorPosition());
        works.undo();
        Check.due("nor does undo", 4, works.errorPosition());
        Check.run(works, "wait?");
        Check.run(works, "x");
        Check.due("the latest", 0, works.errorPosition());
        works.save();
        Check.run(works, "wa");
        works.restore();
        Check.due("nor does restore", 2, works.errorPosition());
    }

    static void promise56() {
        FilterWaterworks works = new FilterWaterworks();
        Check.thrown("none yet", NoSuchElementException.class, works::failedCommand);
        Check.run(works, "tank");
        Check.thrown("without the form", NoSuchElementException.class, works::failedCommand);
        Check.run(works, "tank 10;wait;draw 0 1;draw 9 1");
        Check.due("third", 2, works.failedCommand());
        Check.run(works, "tank 10");
        Check.run(works, "tank");
        Check.due("stays", 2, works.failedCommand());
        works.undo();
        works.save();
        Check.run(works, "clean 0");
        Check.due("latest", 0, works.failedCommand());
        works.restore();
        Check.due("restore changes nothing", 0, works.failedCommand());
    }
}
