import java.util.Random;

/** Runs of 512 calls on the class and on PlainWaterworks, with fixed seeds: all answers are the same. */
final class ComparisonTest {
    private static final int RUNS = 4000;
    private static final int CALLS = 512;
    private static final String[] WORDS = {
        "tank ", "pipe ", "pour ", "draw ", "valve ", "leak ", "clean ", "wait", "wait "};

    private final Random random;
    private final FilterWaterworks works = new FilterWaterworks();
    private final PlainWaterworks plain = new PlainWaterworks();
    private int calls = 0;

    private ComparisonTest(long seed) {
        random = new Random(seed);
    }

    static void wholeRuns() {
        int before = Check.wrong();
        for (int run = 0; run < RUNS && Check.wrong() == before; run++) {
            new ComparisonTest(run).calls(run);
        }
    }

    private void calls(int run) {
        // Runs of few changes keep states for long, the others go through many.
        int questions = 1 + run % 12;
        if (run % 3 == 0) {
            build(2 + upTo(6), 1 + upTo(11));
        }
        while (calls < CALLS) {
            int before = Check.wrong();
            if (random.nextInt(questions + 4) < 4) {
                change();
            } else {
                ask();
            }
            if (Check.wrong() != before) {
                System.out.println("  in run " + run + ", before call " + calls);
                return;
            }
        }
    }

    private void build(int tanks, int pipes) {
        for (int tank = 0; tank < tanks; tank++) {
            int capacity = 10 + upTo(200);
            compare("addTank", () -> plain.addTank(capacity), () -> works.addTank(capacity));
        }
        for (int pipe = 0; pipe < pipes; pipe++) {
            int index = pipe;
            int first = upTo(tanks - 1);
            int second = (first + 1 + upTo(tanks - 2)) % tanks;
            int mesh = set() & 255;
            int setting = upTo(4);
            compare("addPipe", () -> plain.addPipe(first, second, mesh), () -> works.addPipe(first, second, mesh));
            compare("setValve", () -> plain.setValve(index, setting), () -> works.setValve(index, setting));
        }
    }

    private int upTo(int greatest) {
        return random.nextInt(greatest + 1);
    }

    /** Mostly a number from 0 to below the bound, now and then one outside. */
    private int index(int bound) {
        if (random.nextInt(25) != 0) {
            return upTo(Math.max(0, bound - 1));
        }
        return new int[] {-1, bound, bound + 1, Integer.MIN_VALUE}[upTo(3)];
    }

    private int within(int least, int greatest) {
        int kind = random.nextInt(25);
        return kind == 0 ? least - 1 : kind == 1 ? greatest + 1 : least + upTo(greatest - least);
    }

    private int tank() {
        return index(plain.tankCount());
    }

    private int pipe() {
        return index(plain.pipeCount());
    }

    private int litres() {
        return random.nextInt(3) == 0 ? within(1, 999) : within(1, 90);
    }

    private int set() {
        return within(0, 255) & (random.nextBoolean() ? -1 : within(0, 255));
    }

    /** An object is used for at most 512 calls. */
    private void compare(String what, Check.Call want, Check.Call got) {
        if (calls == CALLS) {
            return;
        }
        calls++;
        Check.due(what, Check.outcome(want), Check.outcome(got));
    }

    private void change() {
        int a = tank();
        int b = tank();
        int p = pipe();
        switch (upTo(14)) {
            case 0 -> {
                int capacity = random.nextBoolean() ? within(10, 999) : within(10, 60);
                compare("addTank " + capacity, () -> plain.addTank(capacity), () -> works.addTank(capacity));
            }
            case 1, 2 -> {
                int mesh = set();
                String what = "addPipe " + a + " " + b + " " + mesh;
                compare(what, () -> plain.addPipe(a, b, mesh), () -> works.addPipe(a, b, mesh));
            }
            case 3, 4, 5 -> {
                int litres = litres();
                int set = set();
                String what = "pour " + a + " " + litres + " " + set;
                compare(what, () -> plain.pour(a, litres, set), () -> works.pour(a, litres, set));
            }
            case 6 -> {
                int litres = random.nextInt(4) == 0 && a >= 0 && a < plain.tankCount() ? plain.content(a) : litres();
                compare("draw " + a + " " + litres, () -> plain.draw(a, litres), () -> works.draw(a, litres));
            }
            case 7, 8 -> {
                int setting = within(0, 4);
                compare("setValve " + p, () -> plain.setValve(p, setting), () -> works.setValve(p, setting));
            }
            case 9 -> {
                int rate = within(0, 9);
                compare("setLeak " + p, () -> plain.setLeak(p, rate), () -> works.setLeak(p, rate));
            }
            case 10 -> compare("cleanFilter " + p, () -> plain.cleanFilter(p), () -> works.cleanFilter(p));
            case 11 -> {
                int minutes = random.nextInt(4) == 0 ? within(1, 60) : within(1, 4);
                compare("advance " + minutes, () -> plain.advance(minutes), () -> works.advance(minutes));
            }
            case 12, 13 -> script();
            default -> goBack();
        }
        compare("fingerprint", plain::fingerprint, works::fingerprint);
    }

    private void goBack() {
        switch (upTo(5)) {
            case 0 -> compare("save", plain::save, works::save);
            case 1 -> compare("restore", plain::restore, works::restore);
            default -> compare("undo", plain::undo, works::undo);
        }
    }

    private void script() {
        StringBuilder text = new StringBuilder();
        int commands = random.nextInt(5) == 0 ? 12 : 1 + upTo(3);
        for (int command = 0; command < commands; command++) {
            text.append(command > 0 ? ";" : "").append(command());
        }
        if (random.nextInt(3) == 0) {
            int at = upTo(text.length() - 1);
            switch (upTo(2)) {
                case 0 -> text.setCharAt(at, "0123456789 ;/abcdefghi".charAt(upTo(21)));
                case 1 -> text.deleteCharAt(at);
                default -> text.insert(at, "09 ;/ahtpdvlcw".charAt(upTo(13)));
            }
        }
        for (int i = 0; i < text.length() && i < 61; i++) {
            char character = text.charAt(i);
            compare("type", () -> plain.type(character), () -> works.type(character));
        }
        compare("runScript '" + text + "'", plain::runScript, works::runScript);
        compare("errorPosition of '" + text + "'", plain::errorPosition, works::errorPosition);
        compare("failedCommand of '" + text + "'", plain::failedCommand, works::failedCommand);
    }

    private String command() {
        String word = WORDS[upTo(8)];
        int tank = upTo(Math.max(1, plain.tankCount() - 1));
        int pipe = upTo(Math.max(0, plain.pipeCount() - 1));
        switch (word) {
            case "tank ":
                return word + within(10, 99);
            case "pipe ":
                return word + tank + (tank + 1 + upTo(2)) % 8 + letters();
            case "pour ":
                return word + tank + " " + (1 + upTo(40)) + letters();
            case "draw ":
                return word + tank + " " + (1 + upTo(20));
            case "valve ":
                return word + pipe + " " + upTo(4);
            case "leak ":
                return word + pipe + " " + upTo(9);
            case "clean ":
                return word + pipe;
            case "wait ":
                return word + upTo(62);
            default:
                return word;
        }
    }

    private String letters() {
        StringBuilder letters = new StringBuilder("/");
        for (char letter = 'a'; letter <= 'h'; letter++) {
            letters.append(random.nextInt(3) == 0 ? String.valueOf(letter) : "");
        }
        return letters.toString();
    }

    private void ask() {
        switch (upTo(6)) {
            case 0 -> askTank(tank(), index(plain.tankCount()), (char) within('a', 'h'));
            case 1 -> askPipe(pipe(), index(plain.pipeCount()));
            case 2, 3 -> askPair(tank(), tank());
            case 4 -> askTotals();
            case 5 -> askCounts();
            default -> askOutput(tank(), pipe(), index(14));
        }
    }

    private void askTank(int tank, int rank, char letter) {
        compare("capacity", () -> plain.capacity(tank), () -> works.capacity(tank));
        compare("content", () -> plain.content(tank), () -> works.content(tank));
        compare("impurities", () -> plain.impurities(tank), () -> works.impurities(tank));
        compare("hasImpurity", () -> plain.hasImpurity(tank, letter), () -> works.hasImpurity(tank, letter));
        compare("tankByContent " + rank, () -> plain.tankByContent(rank), () -> works.tankByContent(rank));
        compare("fillShare", () -> plain.fillShare(tank), () -> works.fillShare(tank));
        compare("fillShareBits", () -> plain.fillShareBits(tank), () -> works.fillShareBits(tank));
    }

    private void askPipe(int pipe, int rank) {
        compare("firstOf", () -> plain.firstOf(pipe), () -> works.firstOf(pipe));
        compare("secondOf", () -> plain.secondOf(pipe), () -> works.secondOf(pipe));
        compare("valve", () -> plain.valve(pipe), () -> works.valve(pipe));
        compare("leak", () -> plain.leak(pipe), () -> works.leak(pipe));
        compare("mesh", () -> plain.mesh(pipe), () -> works.mesh(pipe));
        compare("dirt", () -> plain.dirt(pipe), () -> works.dirt(pipe));
        compare("isOpen", () -> plain.isOpen(pipe), () -> works.isOpen(pipe));
        compare("flow", () -> plain.flow(pipe), () -> works.flow(pipe));
        compare("litresThrough", () -> plain.litresThrough(pipe), () -> works.litresThrough(pipe));
        compare("isBridge", () -> plain.isBridge(pipe), () -> works.isBridge(pipe));
        compare("pipeByDirt " + rank, () -> plain.pipeByDirt(rank), () -> works.pipeByDirt(rank));
    }

    private void askPair(int one, int other) {
        compare("areConnected", () -> plain.areConnected(one, other), () -> works.areConnected(one, other));
        compare("width", () -> plain.width(one, other), () -> works.width(one, other));
        compare("widthBySettings", () -> plain.width(one, other), () -> works.widthBySettings(one, other));
        compare("cleanest", () -> plain.cleanest(one, other), () -> works.cleanest(one, other));
        compare("cleanestByPasses", () -> plain.cleanest(one, other), () -> works.cleanestByPasses(one, other));
    }

    private void askTotals() {
        compare("time", plain::time, works::time);
        compare("pouredTotal", plain::pouredTotal, works::pouredTotal);
        compare("drawnTotal", plain::drawnTotal, works::drawnTotal);
        compare("spilledTotal", plain::spilledTotal, works::spilledTotal);
        compare("totalContent", plain::totalContent, works::totalContent);
        compare("totalContentByAccounts", plain::totalContent, works::totalContentByAccounts);
        compare("meanContent", plain::meanContent, works::meanContent);
        compare("meanContentBits", plain::meanContentBits, works::meanContentBits);
        compare("isConsistent", () -> true, works::isConsistent);
    }

    private void askCounts() {
        compare("tankCount", plain::tankCount, works::tankCount);
        compare("pipeCount", plain::pipeCount, works::pipeCount);
        compare("groupCount", plain::groupCount, works::groupCount);
        compare("groupCountByUnions", plain::groupCount, works::groupCountByUnions);
        compare("bridgeCount", plain::bridgeCount, works::bridgeCount);
        compare("bridgeCountByLeavingOut", plain::bridgeCount, works::bridgeCountByLeavingOut);
        compare("minutesUntilStill", plain::minutesUntilStill, works::minutesUntilStill);
    }

    private void askOutput(int tank, int pipe, int index) {
        if (random.nextBoolean()) {
            compare("renderTank", () -> plain.renderTank(tank), () -> works.renderTank(tank));
        } else {
            compare("renderPipe", () -> plain.renderPipe(pipe), () -> works.renderPipe(pipe));
        }
        compare("outputAt " + index, () -> plain.outputAt(index), () -> works.outputAt(index));
    }
}
