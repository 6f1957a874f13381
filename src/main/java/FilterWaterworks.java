import java.util.Arrays;
import java.util.NoSuchElementException;

/** Tanks with water and impurities, connected by pipes with valves, filters and leaks. */
public final class FilterWaterworks {
    private static final int MOST_TANKS = 8;
    private static final int MOST_PIPES = 12;
    private static final int LEAST_CAPACITY = 10;
    private static final int MOST_LITRES = 999;
    private static final int IMPURITIES = 8;
    private static final int ALL_IMPURITIES = 255;
    private static final int SETS = 256;
    private static final int WIDEST = 4;
    private static final int LITRES_A_STEP = 5;
    private static final int GREATEST_RATE = 9;
    private static final int CLOGGED = 20;
    private static final int MOST_MINUTES = 60;
    private static final int PREDICTED_MINUTES = 300;
    private static final int MOST_CHARACTERS = 60;
    private static final int FIRST_CHARACTER = 32;
    private static final int LAST_CHARACTER = 126;
    private static final int MOST_COMMANDS = 12;
    private static final int MOST_ARGUMENTS = 3;
    private static final int MOST_UNDONE = 8;
    private static final int NONE = -1;

    // The kinds of changes, which are the kinds of commands as well.
    private static final int TANK = 0;
    private static final int PIPE = 1;
    private static final int POUR = 2;
    private static final int DRAW = 3;
    private static final int VALVE = 4;
    private static final int LEAK = 5;
    private static final int CLEAN = 6;
    private static final int WAIT = 7;
    private static final int KINDS = 8;

    // Why a change is refused. A code and not an exception, so that a script needs no catch.
    private static final int ACCEPTED = 0;
    private static final int NO_SUCH_INDEX = 1;
    private static final int BAD_ARGUMENT = 2;
    private static final int BAD_STATE = 3;
    private static final int NOT_SUPPORTED = 4;

    private final State state;
    private final State saved;
    private final State beforeScript;
    private final State prediction;
    private final History history;
    private final Connections connections;
    private final Script script;
    private final StringBuilder output;
    private boolean isSaved;
    private int lastErrorPosition;
    private int lastFailedCommand;

    public FilterWaterworks() {
        state = new State();
        saved = new State();
        beforeScript = new State();
        prediction = new State();
        history = new History();
        connections = new Connections(state);
        script = new Script();
        output = new StringBuilder();
        lastErrorPosition = NONE;
        lastFailedCommand = NONE;
    }

    // ---- changes ----

    public int addTank(int capacity) throws IllegalArgumentException, IllegalStateException {
        return change(TANK, capacity, 0, 0);
    }

    public int addPipe(int first, int second, int mesh)
            throws IndexOutOfBoundsException, IllegalArgumentException, IllegalStateException {
        return change(PIPE, first, second, mesh);
    }

    public int pour(int tank, int litres, int impurities)
            throws IndexOutOfBoundsException, IllegalArgumentException, UnsupportedOperationException {
        return change(POUR, tank, litres, impurities);
    }

    public int draw(int tank, int litres)
            throws IndexOutOfBoundsException, IllegalArgumentException, UnsupportedOperationException {
        return change(DRAW, tank, litres, 0);
    }

    public int setValve(int pipe, int setting) throws IndexOutOfBoundsException, IllegalArgumentException {
        return change(VALVE, pipe, setting, 0);
    }

    public int setLeak(int pipe, int rate) throws IndexOutOfBoundsException, IllegalArgumentException {
        return change(LEAK, pipe, rate, 0);
    }

    public int cleanFilter(int pipe) throws IndexOutOfBoundsException {
        return change(CLEAN, pipe, 0, 0);
    }

    public int advance(int minutes) throws IllegalArgumentException {
        return change(WAIT, minutes, 0, 0);
    }

    private int change(int kind, int a, int b, int c) {
        throwFor(state.refusalOf(kind, a, b, c));
        history.keep(state);
        return state.perform(kind, a, b, c);
    }

    private static void throwFor(int refusal) {
        switch (refusal) {
            case NO_SUCH_INDEX:
                throw new IndexOutOfBoundsException("no such tank or pipe");
            case BAD_ARGUMENT:
                throw new IllegalArgumentException("an argument is not in its range");
            case BAD_STATE:
                throw new IllegalStateException("no more of them can be added");
            case NOT_SUPPORTED:
                throw new UnsupportedOperationException("the tank cannot hold or give so much");
            default:
                break;
        }
    }

    private void needTank(int tank) {
        if (!state.hasTank(tank)) {
            throw new IndexOutOfBoundsException("no such tank");
        }
    }

    private void needPipe(int pipe) {
        if (!state.hasPipe(pipe)) {
            throw new IndexOutOfBoundsException("no such pipe");
        }
    }

    // ---- tanks ----

    public int tankCount() {
        return state.tanks;
    }

    public int capacity(int tank) throws IndexOutOfBoundsException {
        needTank(tank);
        return state.capacity[tank];
    }

    public int content(int tank) throws IndexOutOfBoundsException {
        needTank(tank);
        return state.content[tank];
    }

    public int impurities(int tank) throws IndexOutOfBoundsException {
        needTank(tank);
        return state.impurities[tank];
    }

    public boolean hasImpurity(int tank, char letter) throws IndexOutOfBoundsException, IllegalArgumentException {
        needTank(tank);
        if (letter < 'a' || letter > 'h') {
            throw new IllegalArgumentException("no such impurity");
        }
        return contains(state.impurities[tank], letter - 'a');
    }

    public int tankByContent(int rank) throws NoSuchElementException {
        for (int tank = 0; tank < state.tanks; tank++) {
            if (tanksBefore(tank) == rank) {
                return tank;
            }
        }
        throw new NoSuchElementException("no such rank");
    }

    private int tanksBefore(int tank) {
        int before = 0;
        for (int other = 0; other < state.tanks; other++) {
            if (state.isTankBefore(other, tank)) {
                before++;
            }
        }
        return before;
    }

    public float fillShare(int tank) throws IndexOutOfBoundsException {
        needTank(tank);
        return (float) state.content[tank] / (float) state.capacity[tank];
    }

    public int fillShareBits(int tank) throws IndexOutOfBoundsException {
        return bitsOfFloat(fillShare(tank));
    }

    // ---- pipes ----

    public int pipeCount() {
        return state.pipes;
    }

    public int firstOf(int pipe) throws IndexOutOfBoundsException {
        needPipe(pipe);
        return state.first[pipe];
    }

    public int secondOf(int pipe) throws IndexOutOfBoundsException {
        needPipe(pipe);
        return state.second[pipe];
    }

    public int valve(int pipe) throws IndexOutOfBoundsException {
        needPipe(pipe);
        return state.setting[pipe];
    }

    public int leak(int pipe) throws IndexOutOfBoundsException {
        needPipe(pipe);
        return state.rate[pipe];
    }

    public int mesh(int pipe) throws IndexOutOfBoundsException {
        needPipe(pipe);
        return state.mesh[pipe];
    }

    public int dirt(int pipe) throws IndexOutOfBoundsException {
        needPipe(pipe);
        return state.dirt[pipe];
    }

    public boolean isOpen(int pipe) throws IndexOutOfBoundsException {
        needPipe(pipe);
        return state.letsThrough(pipe);
    }

    public int flow(int pipe) throws IndexOutOfBoundsException {
        needPipe(pipe);
        return state.litresToFlow(pipe);
    }

    public int litresThrough(int pipe) throws IndexOutOfBoundsException {
        needPipe(pipe);
        return state.through[pipe];
    }

    public int pipeByDirt(int rank) throws NoSuchElementException {
        for (int pipe = 0; pipe < state.pipes; pipe++) {
            if (pipesBefore(pipe) == rank) {
                return pipe;
            }
        }
        throw new NoSuchElementException("no such rank");
    }

    private int pipesBefore(int pipe) {
        int before = 0;
        for (int other = 0; other < state.pipes; other++) {
            if (state.isPipeBefore(other, pipe)) {
                before++;
            }
        }
        return before;
    }

    // ---- connections ----

    public boolean areConnected(int first, int second) throws IndexOutOfBoundsException {
        needTank(first);
        needTank(second);
        return connections.connect(first, second);
    }

    public int groupCount() {
        return connections.groupsByWalking();
    }

    public int groupCountByUnions() {
        return connections.groupsByUniting();
    }

    public boolean isBridge(int pipe) throws IndexOutOfBoundsException {
        needPipe(pipe);
        return connections.dependOn(pipe);
    }

    public int bridgeCount() {
        return connections.bridgesByNumbering();
    }

    public int bridgeCountByLeavingOut() {
        return connections.bridgesByLeavingOut();
    }

    public int width(int first, int second) throws IndexOutOfBoundsException {
        needTank(first);
        needTank(second);
        return connections.widthByGoingOn(first, second);
    }

    public int widthBySettings(int first, int second) throws IndexOutOfBoundsException {
        needTank(first);
        needTank(second);
        return connections.widthByTrying(first, second);
    }

    public int cleanest(int from, int to) throws IndexOutOfBoundsException, NoSuchElementException {
        needConnection(from, to);
        connections.search(from);
        return connections.leftBySearch[to];
    }

    public int cleanestByPasses(int from, int to) throws IndexOutOfBoundsException, NoSuchElementException {
        needConnection(from, to);
        connections.passUntilNothingIsNew(from);
        return connections.leftByPasses[to];
    }

    private void needConnection(int from, int to) {
        needTank(from);
        needTank(to);
        if (!connections.connect(from, to)) {
            throw new NoSuchElementException("the tanks are not connected");
        }
    }

    public int minutesUntilStill() throws IllegalStateException {
        prediction.copyFrom(state);
        for (int minutes = 0; minutes <= PREDICTED_MINUTES; minutes++) {
            if (prediction.isStill()) {
                return minutes;
            }
            prediction.passMinute();
        }
        throw new IllegalStateException("not still after 300 minutes");
    }

    // ---- totals and checks ----

    public int time() {
        return state.time;
    }

    public int pouredTotal() {
        return state.poured;
    }

    public int drawnTotal() {
        return state.drawn;
    }

    public int spilledTotal() {
        return state.spilled;
    }

    public int totalContent() {
        return state.contentOfAll();
    }

    public int totalContentByAccounts() {
        return state.poured - state.drawn - state.spilled;
    }

    public double meanContent() throws ArithmeticException {
        if (state.tanks == 0) {
            throw new ArithmeticException("no tanks");
        }
        return (double) state.contentOfAll() / (double) state.tanks;
    }

    public long meanContentBits() throws ArithmeticException {
        return bitsOfDouble(meanContent());
    }

    public long fingerprint() {
        long print = 17L;
        for (int tank = 0; tank < state.tanks; tank++) {
            print = (print << 5 | print >>> 59) ^ state.tankNumber(tank);
        }
        for (int pipe = 0; pipe < state.pipes; pipe++) {
            print = (print << 7 | print >>> 57) ^ state.pipeNumber(pipe);
        }
        return print;
    }

    public boolean isConsistent() {
        return connections.groupsByWalking() == connections.groupsByUniting()
                && connections.bridgesByNumbering() == connections.bridgesByLeavingOut()
                && connections.allPairsAgree()
                && state.contentOfAll() == totalContentByAccounts()
                && state.everythingFits();
    }

    // ---- output and scripts ----

    public int renderTank(int tank) throws IndexOutOfBoundsException {
        needTank(tank);
        output.setLength(0);
        output.append(tank).append('=').append(state.content[tank]).append('/').append(state.capacity[tank]);
        if (state.impurities[tank] != 0) {
            output.append(':');
            appendLetters(state.impurities[tank]);
        }
        return output.length();
    }

    private void appendLetters(int set) {
        for (int impurity = 0; impurity < IMPURITIES; impurity++) {
            if (contains(set, impurity)) {
                output.append((char) ('a' + impurity));
            }
        }
    }

    public int renderPipe(int pipe) throws IndexOutOfBoundsException {
        needPipe(pipe);
        output.setLength(0);
        output.append(pipe).append(':').append(state.first[pipe]).append('-').append(state.second[pipe]);
        output.append('v').append(state.setting[pipe]).append('d').append(state.dirt[pipe]);
        if (state.rate[pipe] != 0) {
            output.append('l').append(state.rate[pipe]);
        }
        if (connections.dependOn(pipe)) {
            output.append('*');
        }
        return output.length();
    }

    public char outputAt(int index) throws IndexOutOfBoundsException {
        if (index < 0 || index >= output.length()) {
            throw new IndexOutOfBoundsException("no such character");
        }
        return output.charAt(index);
    }

    public int type(char character) throws IllegalArgumentException, IllegalStateException {
        if (character < FIRST_CHARACTER || character > LAST_CHARACTER) {
            throw new IllegalArgumentException("no such character in scripts");
        }
        if (script.isFull()) {
            throw new IllegalStateException("the script buffer is full");
        }
        return script.append(character);
    }

    public int runScript() throws IllegalArgumentException, IllegalStateException {
        boolean isFormed = script.read();
        script.empty();
        if (!isFormed) {
            lastErrorPosition = script.position;
            throw new IllegalArgumentException("the script does not have the required form");
        }
        beforeScript.copyFrom(state);
        for (int command = 0; command < script.commands; command++) {
            if (!performed(command)) {
                state.copyFrom(beforeScript);
                lastFailedCommand = command;
                throw new IllegalStateException("a command failed");
            }
        }
        history.keep(beforeScript);
        return script.commands;
    }

    private boolean performed(int command) {
        int kind = script.kinds[command];
        int a = script.argument(command, 0);
        int b = script.argument(command, 1);
        int c = script.argument(command, 2);
        if (state.refusalOf(kind, a, b, c) != ACCEPTED) {
            return false;
        }
        state.perform(kind, a, b, c);
        return true;
    }

    public int errorPosition() throws NoSuchElementException {
        if (lastErrorPosition == NONE) {
            throw new NoSuchElementException("no script without the required form");
        }
        return lastErrorPosition;
    }

    public int failedCommand() throws NoSuchElementException {
        if (lastFailedCommand == NONE) {
            throw new NoSuchElementException("no script with a failed command");
        }
        return lastFailedCommand;
    }

    public int undo() throws NoSuchElementException {
        if (history.kept == 0) {
            throw new NoSuchElementException("nothing to undo");
        }
        history.takeBack(state);
        return history.kept;
    }

    public int save() {
        saved.copyFrom(state);
        isSaved = true;
        return state.tanks;
    }

    public int restore() throws IllegalStateException {
        if (!isSaved) {
            throw new IllegalStateException("no snapshot");
        }
        state.copyFrom(saved);
        history.kept = 0;
        return state.tanks;
    }

    // ---- sets and bits ----

    private static boolean contains(int set, int element) {
        return (set >> element & 1) != 0;
    }

    /** Stands for Float.floatToIntBits, which the language does not leave; for 0 and shares up to 1. */
    private static int bitsOfFloat(float value) {
        if (value <= 0.0f) {
            return 0;
        }
        int exponent = 127;
        float rest = value;
        while (rest < 1.0f && exponent > 1) {
            rest = rest * 2.0f;
            exponent--;
        }
        return (exponent << 23) + (int) ((rest - 1.0f) * 8388608.0f);
    }

    /** Stands for Double.doubleToLongBits, which the language does not leave; for 0 and mean contents. */
    private static long bitsOfDouble(double value) {
        if (value <= 0.0) {
            return 0L;
        }
        int exponent = 1023;
        double rest = value;
        while (rest >= 2.0 && exponent < 2046) {
            rest = rest / 2.0;
            exponent++;
        }
        while (rest < 1.0 && exponent > 1) {
            rest = rest * 2.0;
            exponent--;
        }
        return ((long) exponent << 52) + (long) ((rest - 1.0) * 4503599627370496.0);
    }

    /** All that undo and the snapshot cover. What stands behind the counts in the rows is 0. */
    private static final class State {
        final int[] capacity = new int[MOST_TANKS];
        final int[] content = new int[MOST_TANKS];
        final int[] impurities = new int[MOST_TANKS];
        final int[] first = new int[MOST_PIPES];
        final int[] second = new int[MOST_PIPES];
        final int[] mesh = new int[MOST_PIPES];
        final int[] setting = new int[MOST_PIPES];
        final int[] rate = new int[MOST_PIPES];
        final int[] dirt = new int[MOST_PIPES];
        final int[] through = new int[MOST_PIPES];
        int tanks;
        int pipes;
        int time;
        int poured;
        int drawn;
        int spilled;

        void copyFrom(State other) {
            System.arraycopy(other.capacity, 0, capacity, 0, MOST_TANKS);
            System.arraycopy(other.content, 0, content, 0, MOST_TANKS);
            System.arraycopy(other.impurities, 0, impurities, 0, MOST_TANKS);
            System.arraycopy(other.first, 0, first, 0, MOST_PIPES);
            System.arraycopy(other.second, 0, second, 0, MOST_PIPES);
            System.arraycopy(other.mesh, 0, mesh, 0, MOST_PIPES);
            System.arraycopy(other.setting, 0, setting, 0, MOST_PIPES);
            System.arraycopy(other.rate, 0, rate, 0, MOST_PIPES);
            System.arraycopy(other.dirt, 0, dirt, 0, MOST_PIPES);
            System.arraycopy(other.through, 0, through, 0, MOST_PIPES);
            tanks = other.tanks;
            pipes = other.pipes;
            time = other.time;
            poured = other.poured;
            drawn = other.drawn;
            spilled = other.spilled;
        }

        boolean hasTank(int tank) {
            return tank >= 0 && tank < tanks;
        }

        boolean hasPipe(int pipe) {
            return pipe >= 0 && pipe < pipes;
        }

        int refusalOf(int kind, int a, int b, int c) {
            switch (kind) {
                case TANK:
                    return refusalOfTank(a);
                case PIPE:
                    return refusalOfPipe(a, b, c);
                case POUR:
                    return refusalOfPouring(a, b, c);
                case DRAW:
                    return refusalOfDrawing(a, b);
                case VALVE:
                    return refusalForPipe(a, isWithin(b, 0, WIDEST));
                case LEAK:
                    return refusalForPipe(a, isWithin(b, 0, GREATEST_RATE));
                case CLEAN:
                    return refusalForPipe(a, true);
                default:
                    return isWithin(a, 1, MOST_MINUTES) ? ACCEPTED : BAD_ARGUMENT;
            }
        }

        private static boolean isWithin(int number, int least, int greatest) {
            return number >= least && number <= greatest;
        }

        private int refusalOfTank(int litres) {
            if (!isWithin(litres, LEAST_CAPACITY, MOST_LITRES)) {
                return BAD_ARGUMENT;
            }
            return tanks < MOST_TANKS ? ACCEPTED : BAD_STATE;
        }

        private int refusalOfPipe(int one, int other, int set) {
            if (!hasTank(one) || !hasTank(other)) {
                return NO_SUCH_INDEX;
            }
            if (one == other || !isWithin(set, 0, ALL_IMPURITIES)) {
                return BAD_ARGUMENT;
            }
            return pipes < MOST_PIPES ? ACCEPTED : BAD_STATE;
        }

        private int refusalOfPouring(int tank, int litres, int set) {
            if (!hasTank(tank)) {
                return NO_SUCH_INDEX;
            }
            if (!isWithin(litres, 1, MOST_LITRES) || !isWithin(set, 0, ALL_IMPURITIES)) {
                return BAD_ARGUMENT;
            }
            return content[tank] + litres <= capacity[tank] ? ACCEPTED : NOT_SUPPORTED;
        }

        private int refusalOfDrawing(int tank, int litres) {
            if (!hasTank(tank)) {
                return NO_SUCH_INDEX;
            }
            if (!isWithin(litres, 1, MOST_LITRES)) {
                return BAD_ARGUMENT;
            }
            return content[tank] >= litres ? ACCEPTED : NOT_SUPPORTED;
        }

        private int refusalForPipe(int pipe, boolean isArgumentGood) {
            if (!hasPipe(pipe)) {
                return NO_SUCH_INDEX;
            }
            return isArgumentGood ? ACCEPTED : BAD_ARGUMENT;
        }

        /** Does a change that refusalOf accepts, and returns its answer. */
        int perform(int kind, int a, int b, int c) {
            switch (kind) {
                case TANK:
                    return newTank(a);
                case PIPE:
                    return newPipe(a, b, c);
                case POUR:
                    return pourInto(a, b, c);
                case DRAW:
                    return drawFrom(a, b);
                case VALVE:
                    return put(setting, a, b);
                case LEAK:
                    return put(rate, a, b);
                case CLEAN:
                    return put(dirt, a, 0);
                default:
                    return passMinutes(a);
            }
        }

        private int newTank(int litres) {
            capacity[tanks] = litres;
            tanks++;
            return tanks - 1;
        }

        private int newPipe(int one, int other, int set) {
            first[pipes] = one;
            second[pipes] = other;
            mesh[pipes] = set;
            pipes++;
            return pipes - 1;
        }

        private int pourInto(int tank, int litres, int set) {
            content[tank] += litres;
            impurities[tank] |= set;
            poured += litres;
            return content[tank];
        }

        private int drawFrom(int tank, int litres) {
            content[tank] -= litres;
            if (content[tank] == 0) {
                impurities[tank] = 0;
            }
            drawn += litres;
            return content[tank];
        }

        private static int put(int[] row, int index, int value) {
            int previous = row[index];
            row[index] = value;
            return previous;
        }

        private int passMinutes(int minutes) {
            int before = spilled;
            for (int minute = 0; minute < minutes; minute++) {
                passMinute();
            }
            return spilled - before;
        }

        void passMinute() {
            time++;
            for (int pipe = 0; pipe < pipes; pipe++) {
                int litres = litresToFlow(pipe);
                if (litres > 0) {
                    let(litres, pipe, first[pipe], second[pipe]);
                } else if (litres < 0) {
                    let(-litres, pipe, second[pipe], first[pipe]);
                }
            }
        }

        private void let(int litres, int pipe, int from, int to) {
            int lost = Math.min(rate[pipe], litres);
            int heldBack = impurities[from] & mesh[pipe];
            content[from] -= litres;
            content[to] += litres - lost;
            if (litres > lost) {
                impurities[to] |= impurities[from] & ~mesh[pipe];
            }
            dirt[pipe] = Math.min(CLOGGED, dirt[pipe] + Integer.bitCount(heldBack));
            through[pipe] += litres;
            spilled += lost;
        }

        boolean letsThrough(int pipe) {
            return setting[pipe] != 0 && dirt[pipe] < CLOGGED;
        }

        /** The litres that would leave the first tank now, negative if they would leave the second one. */
        int litresToFlow(int pipe) {
            if (!letsThrough(pipe)) {
                return 0;
            }
            int difference = content[first[pipe]] - content[second[pipe]];
            int to = difference > 0 ? second[pipe] : first[pipe];
            int room = capacity[to] - content[to];
            int litres = Math.min(LITRES_A_STEP * setting[pipe], Math.min(Math.abs(difference) / 2, room));
            return difference > 0 ? litres : -litres;
        }

        /** If no pipe would let water flow as the first one, none before it changes anything for the next one. */
        boolean isStill() {
            for (int pipe = 0; pipe < pipes; pipe++) {
                if (litresToFlow(pipe) != 0) {
                    return false;
                }
            }
            return true;
        }

        boolean isTankBefore(int one, int other) {
            if (content[one] != content[other]) {
                return content[one] > content[other];
            }
            int ofOne = Integer.bitCount(impurities[one]);
            int ofOther = Integer.bitCount(impurities[other]);
            return ofOne != ofOther ? ofOne < ofOther : one < other;
        }

        boolean isPipeBefore(int one, int other) {
            if (dirt[one] != dirt[other]) {
                return dirt[one] > dirt[other];
            }
            return through[one] != through[other] ? through[one] > through[other] : one < other;
        }

        int contentOfAll() {
            int sum = 0;
            for (int tank = 0; tank < tanks; tank++) {
                sum += content[tank];
            }
            return sum;
        }

        boolean everythingFits() {
            for (int tank = 0; tank < tanks; tank++) {
                if (content[tank] > capacity[tank]) {
                    return false;
                }
            }
            return true;
        }

        long tankNumber(int tank) {
            return content[tank] + 1000L * capacity[tank] + 1000000L * impurities[tank];
        }

        long pipeNumber(int pipe) {
            return setting[pipe] + 5L * dirt[pipe] + 1000L * rate[pipe] + 10000L * mesh[pipe];
        }
    }

    /** The states before the latest changes, in a ring. */
    private static final class History {
        final State[] rows = new State[MOST_UNDONE];
        int next;
        int kept;

        History() {
            for (int row = 0; row < MOST_UNDONE; row++) {
                rows[row] = new State();
            }
        }

        void keep(State state) {
            rows[next].copyFrom(state);
            next = next < MOST_UNDONE - 1 ? next + 1 : 0;
            kept = Math.min(kept + 1, MOST_UNDONE);
        }

        void takeBack(State state) {
            next = next > 0 ? next - 1 : MOST_UNDONE - 1;
            kept--;
            state.copyFrom(rows[next]);
        }
    }

    /** Ways through the open pipes of a state. Sets of tanks are numbers with a bit for each tank. */
    private static final class Connections {
        // Each pass but the last one reaches at least one tank with a set that is new.
        static final int MOST_PASSES = MOST_TANKS * SETS + 1;

        final State state;
        final int[] leader = new int[MOST_TANKS];
        final int[] number = new int[MOST_TANKS];
        final int[] lowest = new int[MOST_TANKS];
        final int[] widest = new int[MOST_TANKS];
        final int[] leftBySearch = new int[MOST_TANKS];
        final int[] leftByPasses = new int[MOST_TANKS];
        final int[] tanksWithSet = new int[SETS];
        final int[] queue = new int[MOST_TANKS * SETS];
        int queued;
        int numbered;
        int bridges;

        Connections(State state) {
            this.state = state;
        }

        private static int other(State state, int pipe, int tank) {
            if (state.first[pipe] == tank) {
                return state.second[pipe];
            }
            return state.second[pipe] == tank ? state.first[pipe] : NONE;
        }

        /** All tanks that a tank reaches through open pipes of at least a setting, without one pipe (or NONE). */
        private int reachedFrom(int from, int leastSetting, int leftOut) {
            int reached = 1 << from;
            int latest = reached;
            for (int step = 0; latest != 0 && step < MOST_TANKS; step++) {
                latest = neighbours(latest, leastSetting, leftOut) & ~reached;
                reached |= latest;
            }
            return reached;
        }

        private int neighbours(int tanks, int leastSetting, int leftOut) {
            int found = 0;
            for (int pipe = 0; pipe < state.pipes; pipe++) {
                if (pipe == leftOut || !state.letsThrough(pipe) || state.setting[pipe] < leastSetting) {
                    continue;
                }
                if (contains(tanks, state.first[pipe])) {
                    found |= 1 << state.second[pipe];
                }
                if (contains(tanks, state.second[pipe])) {
                    found |= 1 << state.first[pipe];
                }
            }
            return found;
        }

        boolean connect(int first, int second) {
            return contains(reachedFrom(first, 1, NONE), second);
        }

        int groupsByWalking() {
            int groups = 0;
            int grouped = 0;
            for (int tank = 0; tank < state.tanks; tank++) {
                if (!contains(grouped, tank)) {
                    grouped |= reachedFrom(tank, 1, NONE);
                    groups++;
                }
            }
            return groups;
        }

        int groupsByUniting() {
            int groups = state.tanks;
            for (int tank = 0; tank < state.tanks; tank++) {
                leader[tank] = tank;
            }
            for (int pipe = 0; pipe < state.pipes; pipe++) {
                int one = leaderOf(state.first[pipe]);
                int other = leaderOf(state.second[pipe]);
                if (state.letsThrough(pipe) && one != other) {
                    leader[other] = one;
                    groups--;
                }
            }
            return groups;
        }

        private int leaderOf(int tank) {
            int at = tank;
            for (int step = 0; leader[at] != at && step < MOST_TANKS; step++) {
                at = leader[at];
            }
            return at;
        }

        boolean dependOn(int pipe) {
            return state.letsThrough(pipe)
                    && !contains(reachedFrom(state.first[pipe], 1, pipe), state.second[pipe]);
        }

        int bridgesByLeavingOut() {
            int found = 0;
            for (int pipe = 0; pipe < state.pipes; pipe++) {
                if (dependOn(pipe)) {
                    found++;
                }
            }
            return found;
        }

        int bridgesByNumbering() {
            Arrays.fill(number, 0);
            numbered = 0;
            bridges = 0;
            for (int tank = 0; tank < state.tanks; tank++) {
                if (number[tank] == 0) {
                    walk(this, tank, NONE, 1);
                }
            }
            return bridges;
        }

        /** Only the very pipe of the way here is left out, so that a second one beside it still counts. */
        private static void walk(Connections all, int tank, int cameBy, int depth) {
            if (depth > MOST_TANKS) {
                return;
            }
            all.numbered++;
            all.number[tank] = all.numbered;
            all.lowest[tank] = all.numbered;
            for (int pipe = 0; pipe < all.state.pipes; pipe++) {
                int next = other(all.state, pipe, tank);
                if (next == NONE || pipe == cameBy || !all.state.letsThrough(pipe)) {
                    continue;
                }
                if (all.number[next] != 0) {
                    all.lowest[tank] = Math.min(all.lowest[tank], all.number[next]);
                    continue;
                }
                walk(all, next, pipe, depth + 1);
                all.lowest[tank] = Math.min(all.lowest[tank], all.lowest[next]);
                if (all.lowest[next] > all.number[tank]) {
                    all.bridges++;
                }
            }
        }

        int widthByGoingOn(int first, int second) {
            Arrays.fill(widest, 0);
            widest[first] = WIDEST;
            int done = 0;
            for (int round = 0; round < state.tanks; round++) {
                int tank = mostWidelyReached(done);
                if (tank == NONE) {
                    break;
                }
                done |= 1 << tank;
                widenFrom(tank);
            }
            return widest[second];
        }

        private int mostWidelyReached(int done) {
            int best = NONE;
            for (int tank = 0; tank < state.tanks; tank++) {
                if (!contains(done, tank) && widest[tank] > (best == NONE ? 0 : widest[best])) {
                    best = tank;
                }
            }
            return best;
        }

        private void widenFrom(int tank) {
            for (int pipe = 0; pipe < state.pipes; pipe++) {
                int next = other(state, pipe, tank);
                if (next != NONE && state.letsThrough(pipe)) {
                    widest[next] = Math.max(widest[next], Math.min(widest[tank], state.setting[pipe]));
                }
            }
        }

        int widthByTrying(int first, int second) {
            for (int setting = WIDEST; setting > 0; setting--) {
                if (contains(reachedFrom(first, setting, NONE), second)) {
                    return setting;
                }
            }
            return 0;
        }

        /** Fills leftBySearch with what is left at least in each tank, NONE where nothing comes. */
        void search(int from) {
            Arrays.fill(leftBySearch, NONE);
            Arrays.fill(tanksWithSet, 0);
            queued = 0;
            arrive(from, state.impurities[from]);
            for (int next = 0; next < queued && next < queue.length; next++) {
                int tank = queue[next] / SETS;
                int set = queue[next] % SETS;
                for (int pipe = 0; pipe < state.pipes; pipe++) {
                    int to = other(state, pipe, tank);
                    if (to != NONE && state.letsThrough(pipe)) {
                        arrive(to, set & ~state.mesh[pipe]);
                    }
                }
            }
        }

        private void arrive(int tank, int set) {
            if (contains(tanksWithSet[set], tank) || queued >= queue.length) {
                return;
            }
            tanksWithSet[set] |= 1 << tank;
            queue[queued] = tank * SETS + set;
            queued++;
            int left = Integer.bitCount(set);
            if (leftBySearch[tank] == NONE || left < leftBySearch[tank]) {
                leftBySearch[tank] = left;
            }
        }

        /** Fills leftByPasses as search fills leftBySearch. */
        void passUntilNothingIsNew(int from) {
            Arrays.fill(tanksWithSet, 0);
            tanksWithSet[state.impurities[from]] = 1 << from;
            boolean isNew = true;
            for (int pass = 0; isNew && pass < MOST_PASSES; pass++) {
                isNew = passReachesNew();
            }
            for (int tank = 0; tank < MOST_TANKS; tank++) {
                leftByPasses[tank] = fewestLeftIn(tank);
            }
        }

        private boolean passReachesNew() {
            boolean isNew = false;
            for (int set = SETS - 1; set >= 0; set--) {
                if (tanksWithSet[set] == 0) {
                    continue;
                }
                for (int pipe = 0; pipe < state.pipes; pipe++) {
                    if (state.letsThrough(pipe) && carriesNew(set, state.first[pipe], state.second[pipe], pipe)) {
                        isNew = true;
                    }
                    if (state.letsThrough(pipe) && carriesNew(set, state.second[pipe], state.first[pipe], pipe)) {
                        isNew = true;
                    }
                }
            }
            return isNew;
        }

        private boolean carriesNew(int set, int from, int to, int pipe) {
            int rest = set & ~state.mesh[pipe];
            if (!contains(tanksWithSet[set], from) || contains(tanksWithSet[rest], to)) {
                return false;
            }
            tanksWithSet[rest] |= 1 << to;
            return true;
        }

        private int fewestLeftIn(int tank) {
            int fewest = NONE;
            for (int set = 0; set < SETS; set++) {
                int left = Integer.bitCount(set);
                if (contains(tanksWithSet[set], tank) && (fewest == NONE || left < fewest)) {
                    fewest = left;
                }
            }
            return fewest;
        }

        boolean allPairsAgree() {
            for (int from = 0; from < state.tanks; from++) {
                search(from);
                passUntilNothingIsNew(from);
                for (int to = 0; to < state.tanks; to++) {
                    if (!waysAgree(from, to)) {
                        return false;
                    }
                }
            }
            return true;
        }

        private boolean waysAgree(int from, int to) {
            if (widthByGoingOn(from, to) != widthByTrying(from, to)) {
                return false;
            }
            return !connect(from, to) || leftBySearch[to] == leftByPasses[to];
        }
    }

    /** The script buffer, and the commands of the script that was read last; what they have no use for is free. */
    private static final class Script {
        final char[] text = new char[MOST_CHARACTERS];
        final int[] kinds = new int[MOST_COMMANDS];
        final int[] arguments = new int[MOST_COMMANDS * MOST_ARGUMENTS];
        int length;
        int commands;
        int position;

        boolean isFull() {
            return length >= MOST_CHARACTERS;
        }

        int append(char character) {
            text[length] = character;
            length++;
            return length;
        }

        void empty() {
            length = 0;
        }

        int argument(int command, int which) {
            return arguments[command * MOST_ARGUMENTS + which];
        }

        private static String wordOf(int kind) {
            switch (kind) {
                case TANK:
                    return "tank ";
                case PIPE:
                    return "pipe ";
                case POUR:
                    return "pour ";
                case DRAW:
                    return "draw ";
                case VALVE:
                    return "valve ";
                case LEAK:
                    return "leak ";
                case CLEAN:
                    return "clean ";
                default:
                    return "wait";
            }
        }

        /** What stands behind the word: D a digit, N a number, S a set, M minutes or nothing, else the sign itself. */
        private static String formOf(int kind) {
            switch (kind) {
                case PIPE:
                    return "DDS";
                case POUR:
                    return "D NS";
                case DRAW:
                    return "D N";
                case VALVE:
                case LEAK:
                    return "N D";
                case WAIT:
                    return "M";
                default:
                    return "N";
            }
        }

        /** Reads the whole script. If it does not have the form, position is the error position. */
        boolean read() {
            position = 0;
            commands = 0;
            while (commands < MOST_COMMANDS) {
                if (!readCommand()) {
                    return false;
                }
                commands++;
                if (position == length) {
                    return true;
                }
                if (!skip(';')) {
                    return false;
                }
            }
            // So many of the shortest commands and a last ";" fill the buffer: the end comes too early.
            return false;
        }

        private boolean isNext(char least, char greatest) {
            return position < length && text[position] >= least && text[position] <= greatest;
        }

        private boolean skip(char sign) {
            if (!isNext(sign, sign)) {
                return false;
            }
            position++;
            return true;
        }

        private boolean readCommand() {
            int kind = readWord();
            if (kind == NONE) {
                return false;
            }
            kinds[commands] = kind;
            String form = formOf(kind);
            int place = commands * MOST_ARGUMENTS;
            for (int part = 0; part < form.length(); part++) {
                char sign = form.charAt(part);
                if (sign == ' ') {
                    if (!skip(' ')) {
                        return false;
                    }
                    continue;
                }
                int value = readPart(sign);
                if (value == NONE) {
                    return false;
                }
                arguments[place] = value;
                place++;
            }
            return true;
        }

        /** Of all words the one that stands here; NONE, and the position behind what one of them begins with. */
        private int readWord() {
            int longest = 0;
            for (int kind = 0; kind < KINDS; kind++) {
                String word = wordOf(kind);
                int same = lengthInCommon(word);
                if (same == word.length()) {
                    position += same;
                    return kind;
                }
                longest = Math.max(longest, same);
            }
            position += longest;
            return NONE;
        }

        private int lengthInCommon(String word) {
            int most = Math.min(word.length(), length - position);
            for (int same = 0; same < most; same++) {
                if (text[position + same] != word.charAt(same)) {
                    return same;
                }
            }
            return most;
        }

        private int readPart(char sign) {
            switch (sign) {
                case 'D':
                    return readNumber(1);
                case 'N':
                    return readNumber(3);
                case 'S':
                    return readSet();
                default:
                    return skip(' ') ? readNumber(3) : 1;
            }
        }

        private int readNumber(int mostDigits) {
            if (!isNext('0', '9')) {
                return NONE;
            }
            int value = 0;
            for (int digit = 0; digit < mostDigits && isNext('0', '9'); digit++) {
                value = value * 10 + (text[position] - '0');
                position++;
            }
            return value;
        }

        private int readSet() {
            if (!skip('/')) {
                return NONE;
            }
            int set = 0;
            for (char letter = 'a'; letter <= 'h'; letter++) {
                if (skip(letter)) {
                    set |= 1 << (letter - 'a');
                }
            }
            return set;
        }
    }
}
