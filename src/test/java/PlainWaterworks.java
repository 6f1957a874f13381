import java.util.ArrayDeque;
import java.util.ArrayList;
import java.util.Deque;
import java.util.HashSet;
import java.util.List;
import java.util.NoSuchElementException;
import java.util.Set;
import java.util.regex.Matcher;
import java.util.regex.Pattern;

/** The document once more, written with other means and without thrift, to compare the class with. */
final class PlainWaterworks {
    private static final String NUMBER = "\\d(?:\\d\\d?)?";
    private static final String SET = "/a?b?c?d?e?f?g?h?";
    private static final String COMMAND = "(?:tank " + NUMBER + "|pipe \\d\\d" + SET + "|pour \\d " + NUMBER + SET
            + "|draw \\d " + NUMBER + "|valve " + NUMBER + " \\d|leak " + NUMBER + " \\d|clean " + NUMBER
            + "|wait(?: " + NUMBER + ")?)";
    private static final Pattern SCRIPT = Pattern.compile(COMMAND + "(?:;" + COMMAND + ")*");

    private static final class Tank {
        int capacity;
        int content;
        Set<Character> impurities = new HashSet<>();
    }

    private static final class Pipe {
        int first;
        int second;
        Set<Character> mesh = new HashSet<>();
        int setting;
        int rate;
        int dirt;
        int through;

        boolean open() {
            return setting != 0 && dirt != 20;
        }
    }

    private static final class Whole {
        List<Tank> tanks = new ArrayList<>();
        List<Pipe> pipes = new ArrayList<>();
        int time;
        int poured;
        int drawn;
        int spilled;

        Whole copy() {
            Whole copy = new Whole();
            for (Tank tank : tanks) {
                Tank other = new Tank();
                other.capacity = tank.capacity;
                other.content = tank.content;
                other.impurities = new HashSet<>(tank.impurities);
                copy.tanks.add(other);
            }
            for (Pipe pipe : pipes) {
                Pipe other = new Pipe();
                other.first = pipe.first;
                other.second = pipe.second;
                other.mesh = new HashSet<>(pipe.mesh);
                other.setting = pipe.setting;
                other.rate = pipe.rate;
                other.dirt = pipe.dirt;
                other.through = pipe.through;
                copy.pipes.add(other);
            }
            copy.time = time;
            copy.poured = poured;
            copy.drawn = drawn;
            copy.spilled = spilled;
            return copy;
        }
    }

    private Whole now = new Whole();
    private Whole saved = null;
    private final Deque<Whole> before = new ArrayDeque<>();
    private String buffer = "";
    private String output = "";
    private int errorAt = -1;
    private int failedAt = -1;

    private static Set<Character> set(int number) {
        Set<Character> set = new HashSet<>();
        for (char letter = 'a'; letter <= 'h'; letter++) {
            if (number / power(letter) % 2 == 1) {
                set.add(letter);
            }
        }
        return set;
    }

    private static int power(char letter) {
        int power = 1;
        for (char other = 'a'; other < letter; other++) {
            power *= 2;
        }
        return power;
    }

    private static int number(Set<Character> set) {
        int sum = 0;
        for (char letter : set) {
            sum += power(letter);
        }
        return sum;
    }

    private Tank tank(int index) {
        if (index < 0 || index >= now.tanks.size()) {
            throw new IndexOutOfBoundsException();
        }
        return now.tanks.get(index);
    }

    private Pipe pipe(int index) {
        if (index < 0 || index >= now.pipes.size()) {
            throw new IndexOutOfBoundsException();
        }
        return now.pipes.get(index);
    }

    private static void range(int number, int least, int greatest) {
        if (number < least || number > greatest) {
            throw new IllegalArgumentException();
        }
    }

    private void changed(Whole old) {
        before.push(old);
        if (before.size() > 8) {
            before.removeLast();
        }
    }

    private int answered(Whole old, int answer) {
        changed(old);
        return answer;
    }

    int addTank(int capacity) {
        range(capacity, 10, 999);
        if (now.tanks.size() == 8) {
            throw new IllegalStateException();
        }
        Whole old = now.copy();
        Tank tank = new Tank();
        tank.capacity = capacity;
        now.tanks.add(tank);
        return answered(old, now.tanks.size() - 1);
    }

    int addPipe(int first, int second, int mesh) {
        tank(first);
        tank(second);
        range(mesh, 0, 255);
        if (first == second) {
            throw new IllegalArgumentException();
        }
        if (now.pipes.size() == 12) {
            throw new IllegalStateException();
        }
        Whole old = now.copy();
        Pipe pipe = new Pipe();
        pipe.first = first;
        pipe.second = second;
        pipe.mesh = set(mesh);
        now.pipes.add(pipe);
        return answered(old, now.pipes.size() - 1);
    }

    int pour(int index, int litres, int impurities) {
        Tank tank = tank(index);
        range(litres, 1, 999);
        range(impurities, 0, 255);
        if (tank.content + litres > tank.capacity) {
            throw new UnsupportedOperationException();
        }
        Whole old = now.copy();
        tank.content += litres;
        tank.impurities.addAll(set(impurities));
        now.poured += litres;
        return answered(old, tank.content);
    }

    int draw(int index, int litres) {
        Tank tank = tank(index);
        range(litres, 1, 999);
        if (tank.content < litres) {
            throw new UnsupportedOperationException();
        }
        Whole old = now.copy();
        tank.content -= litres;
        if (tank.content == 0) {
            tank.impurities.clear();
        }
        now.drawn += litres;
        return answered(old, tank.content);
    }

    int setValve(int index, int setting) {
        Pipe pipe = pipe(index);
        range(setting, 0, 4);
        Whole old = now.copy();
        pipe.setting = setting;
        return answered(old, old.pipes.get(index).setting);
    }

    int setLeak(int index, int rate) {
        Pipe pipe = pipe(index);
        range(rate, 0, 9);
        Whole old = now.copy();
        pipe.rate = rate;
        return answered(old, old.pipes.get(index).rate);
    }

    int cleanFilter(int index) {
        Pipe pipe = pipe(index);
        Whole old = now.copy();
        pipe.dirt = 0;
        return answered(old, old.pipes.get(index).dirt);
    }

    int advance(int minutes) {
        range(minutes, 1, 60);
        Whole old = now.copy();
        for (int i = 0; i < minutes; i++) {
            minute(now);
        }
        return answered(old, now.spilled - old.spilled);
    }

    /** Returns whether something has flown. */
    private static boolean minute(Whole whole) {
        whole.time++;
        boolean flown = false;
        for (Pipe pipe : whole.pipes) {
            Tank one = whole.tanks.get(pipe.first);
            Tank other = whole.tanks.get(pipe.second);
            Tank full = one.content > other.content ? one : other;
            Tank low = full == one ? other : one;
            int litres = amount(whole, pipe);
            if (litres < 1) {
                continue;
            }
            flown = true;
            full.content -= litres;
            int spilled = pipe.rate < litres ? pipe.rate : litres;
            whole.spilled += spilled;
            low.content += litres - spilled;
            for (char letter : full.impurities) {
                if (pipe.mesh.contains(letter)) {
                    pipe.dirt = pipe.dirt == 20 ? 20 : pipe.dirt + 1;
                } else if (litres - spilled > 0) {
                    low.impurities.add(letter);
                }
            }
            pipe.through += litres;
        }
        return flown;
    }

    private static int amount(Whole whole, Pipe pipe) {
        int first = whole.tanks.get(pipe.first).content;
        int second = whole.tanks.get(pipe.second).content;
        Tank low = whole.tanks.get(first > second ? pipe.second : pipe.first);
        int difference = Math.max(first, second) - Math.min(first, second);
        int litres = 0;
        while (pipe.open() && litres < 5 * pipe.setting && 2 * (litres + 1) <= difference
                && low.content + litres + 1 <= low.capacity) {
            litres++;
        }
        return litres;
    }

    int tankCount() {
        return now.tanks.size();
    }

    int capacity(int tank) {
        return tank(tank).capacity;
    }

    int content(int tank) {
        return tank(tank).content;
    }

    int impurities(int tank) {
        return number(tank(tank).impurities);
    }

    boolean hasImpurity(int tank, char letter) {
        tank(tank);
        range(letter, 'a', 'h');
        return tank(tank).impurities.contains(letter);
    }

    int tankByContent(int rank) {
        List<Integer> order = new ArrayList<>();
        for (int tank = 0; tank < now.tanks.size(); tank++) {
            order.add(tank);
        }
        order.sort((one, other) -> {
            int byContent = Integer.compare(content(other), content(one));
            return byContent != 0 ? byContent
                    : Integer.compare(tank(one).impurities.size(), tank(other).impurities.size());
        });
        return ranked(order, rank);
    }

    private static int ranked(List<Integer> order, int rank) {
        if (rank < 0 || rank >= order.size()) {
            throw new NoSuchElementException();
        }
        return order.get(rank);
    }

    float fillShare(int tank) {
        return (float) content(tank) / (float) capacity(tank);
    }

    int fillShareBits(int tank) {
        return Float.floatToIntBits(fillShare(tank));
    }

    int pipeCount() {
        return now.pipes.size();
    }

    int firstOf(int pipe) {
        return pipe(pipe).first;
    }

    int secondOf(int pipe) {
        return pipe(pipe).second;
    }

    int valve(int pipe) {
        return pipe(pipe).setting;
    }

    int leak(int pipe) {
        return pipe(pipe).rate;
    }

    int mesh(int pipe) {
        return number(pipe(pipe).mesh);
    }

    int dirt(int pipe) {
        return pipe(pipe).dirt;
    }

    boolean isOpen(int pipe) {
        return pipe(pipe).open();
    }

    int flow(int pipe) {
        int litres = amount(now, pipe(pipe));
        return content(firstOf(pipe)) > content(secondOf(pipe)) ? litres : -litres;
    }

    int litresThrough(int pipe) {
        return pipe(pipe).through;
    }

    int pipeByDirt(int rank) {
        List<Integer> order = new ArrayList<>();
        for (int pipe = 0; pipe < now.pipes.size(); pipe++) {
            order.add(pipe);
        }
        order.sort((one, other) -> {
            int byDirt = Integer.compare(dirt(other), dirt(one));
            return byDirt != 0 ? byDirt : Integer.compare(litresThrough(other), litresThrough(one));
        });
        return ranked(order, rank);
    }

    /** The widest settings between all pairs of tanks, by trying each tank as the one between; without one pipe. */
    private int[][] widths(Pipe leftOut) {
        int count = now.tanks.size();
        int[][] widths = new int[count][count];
        for (int tank = 0; tank < count; tank++) {
            widths[tank][tank] = 4;
        }
        for (Pipe pipe : now.pipes) {
            if (pipe != leftOut && pipe.open()) {
                widths[pipe.first][pipe.second] = Math.max(widths[pipe.first][pipe.second], pipe.setting);
                widths[pipe.second][pipe.first] = widths[pipe.first][pipe.second];
            }
        }
        for (int between = 0; between < count; between++) {
            for (int from = 0; from < count; from++) {
                for (int to = 0; to < count; to++) {
                    int over = Math.min(widths[from][between], widths[between][to]);
                    widths[from][to] = Math.max(widths[from][to], over);
                }
            }
        }
        return widths;
    }

    int width(int first, int second) {
        tank(first);
        tank(second);
        return widths(null)[first][second];
    }

    boolean areConnected(int first, int second) {
        return width(first, second) > 0;
    }

    int groupCount() {
        int groups = 0;
        int[][] widths = widths(null);
        for (int tank = 0; tank < now.tanks.size(); tank++) {
            boolean isLeast = true;
            for (int other = 0; other < tank; other++) {
                isLeast = isLeast && widths[tank][other] == 0;
            }
            groups += isLeast ? 1 : 0;
        }
        return groups;
    }

    boolean isBridge(int index) {
        Pipe pipe = pipe(index);
        return pipe.open() && widths(pipe)[pipe.first][pipe.second] == 0;
    }

    int bridgeCount() {
        int bridges = 0;
        for (int pipe = 0; pipe < now.pipes.size(); pipe++) {
            bridges += isBridge(pipe) ? 1 : 0;
        }
        return bridges;
    }

    int cleanest(int from, int to) {
        if (!areConnected(from, to)) {
            throw new NoSuchElementException();
        }
        List<Set<Set<Character>>> arrived = new ArrayList<>();
        for (int tank = 0; tank < now.tanks.size(); tank++) {
            arrived.add(new HashSet<>());
        }
        carry(arrived, from, tank(from).impurities);
        int fewest = 8;
        for (Set<Character> left : arrived.get(to)) {
            fewest = Math.min(fewest, left.size());
        }
        return fewest;
    }

    private void carry(List<Set<Set<Character>>> arrived, int tank, Set<Character> water) {
        if (!arrived.get(tank).add(water)) {
            return;
        }
        for (Pipe pipe : now.pipes) {
            Set<Character> left = new HashSet<>(water);
            left.removeAll(pipe.mesh);
            if (pipe.open() && pipe.first == tank) {
                carry(arrived, pipe.second, left);
            }
            if (pipe.open() && pipe.second == tank) {
                carry(arrived, pipe.first, left);
            }
        }
    }

    int minutesUntilStill() {
        Whole copy = now.copy();
        for (int minutes = 0; minutes <= 300; minutes++) {
            if (!minute(copy)) {
                return minutes;
            }
        }
        throw new IllegalStateException();
    }

    int time() {
        return now.time;
    }

    int pouredTotal() {
        return now.poured;
    }

    int drawnTotal() {
        return now.drawn;
    }

    int spilledTotal() {
        return now.spilled;
    }

    int totalContent() {
        return now.tanks.stream().mapToInt(tank -> tank.content).sum();
    }

    double meanContent() {
        if (now.tanks.isEmpty()) {
            throw new ArithmeticException();
        }
        return (double) totalContent() / (double) now.tanks.size();
    }

    long meanContentBits() {
        return Double.doubleToLongBits(meanContent());
    }

    long fingerprint() {
        long print = 17;
        for (Tank tank : now.tanks) {
            print = Long.rotateLeft(print, 5);
            print ^= tank.content + 1000L * tank.capacity + 1000000L * number(tank.impurities);
        }
        for (Pipe pipe : now.pipes) {
            print = Long.rotateLeft(print, 7);
            print ^= pipe.setting + 5L * pipe.dirt + 1000L * pipe.rate + 10000L * number(pipe.mesh);
        }
        return print;
    }

    int renderTank(int index) {
        Tank tank = tank(index);
        StringBuilder letters = new StringBuilder();
        for (char letter = 'a'; letter <= 'h'; letter++) {
            letters.append(tank.impurities.contains(letter) ? String.valueOf(letter) : "");
        }
        output = index + "=" + tank.content + "/" + tank.capacity + (letters.length() > 0 ? ":" + letters : "");
        return output.length();
    }

    int renderPipe(int index) {
        Pipe pipe = pipe(index);
        output = index + ":" + pipe.first + "-" + pipe.second + "v" + pipe.setting + "d" + pipe.dirt
                + (pipe.rate != 0 ? "l" + pipe.rate : "") + (isBridge(index) ? "*" : "");
        return output.length();
    }

    char outputAt(int index) {
        if (index < 0 || index >= output.length()) {
            throw new IndexOutOfBoundsException();
        }
        return output.charAt(index);
    }

    int type(char character) {
        range(character, 32, 126);
        if (buffer.length() == 60) {
            throw new IllegalStateException();
        }
        buffer += character;
        return buffer.length();
    }

    int runScript() {
        String script = buffer;
        buffer = "";
        if (!SCRIPT.matcher(script).matches()) {
            errorAt = viableLength(script);
            throw new IllegalArgumentException();
        }
        Whole old = now.copy();
        Deque<Whole> kept = new ArrayDeque<>(before);
        String[] commands = script.split(";");
        for (int command = 0; command < commands.length; command++) {
            try {
                perform(commands[command]);
            } catch (RuntimeException e) {
                now = old;
                before.clear();
                before.addAll(kept);
                failedAt = command;
                throw new IllegalStateException();
            }
        }
        before.clear();
        before.addAll(kept);
        changed(old);
        return commands.length;
    }

    /** The longest beginning that a longer text could still make a script of. */
    private static int viableLength(String script) {
        int length = 0;
        while (length < script.length()) {
            Matcher matcher = SCRIPT.matcher(script.substring(0, length + 1));
            if (!matcher.matches() && !matcher.hitEnd()) {
                return length;
            }
            length++;
        }
        return length;
    }

    private void perform(String command) {
        String letters = command.contains("/") ? command.substring(command.indexOf('/') + 1) : "";
        Set<Character> set = new HashSet<>();
        for (char letter : letters.toCharArray()) {
            set.add(letter);
        }
        String[] words = (command.contains("/") ? command.substring(0, command.indexOf('/')) : command).split(" ");
        int[] numbers = new int[words.length];
        for (int i = 1; i < words.length; i++) {
            numbers[i] = Integer.parseInt(words[i]);
        }
        switch (words[0]) {
            case "tank" -> addTank(numbers[1]);
            case "pipe" -> addPipe(numbers[1] / 10, numbers[1] % 10, number(set));
            case "pour" -> pour(numbers[1], numbers[2], number(set));
            case "draw" -> draw(numbers[1], numbers[2]);
            case "valve" -> setValve(numbers[1], numbers[2]);
            case "leak" -> setLeak(numbers[1], numbers[2]);
            case "clean" -> cleanFilter(numbers[1]);
            default -> advance(words.length > 1 ? numbers[1] : 1);
        }
    }

    private static int known(int number) {
        if (number < 0) {
            throw new NoSuchElementException();
        }
        return number;
    }

    int errorPosition() {
        return known(errorAt);
    }

    int failedCommand() {
        return known(failedAt);
    }

    int undo() {
        if (before.isEmpty()) {
            throw new NoSuchElementException();
        }
        now = before.pop();
        return before.size();
    }

    int save() {
        saved = now.copy();
        return now.tanks.size();
    }

    int restore() {
        if (saved == null) {
            throw new IllegalStateException();
        }
        now = saved.copy();
        before.clear();
        return now.tanks.size();
    }
}
