import java.util.NoSuchElementException;

/** Promises 10 to 17. */
final class TanksTest {
    private static final Class<IndexOutOfBoundsException> INDEX = IndexOutOfBoundsException.class;
    private static final Class<NoSuchElementException> ELEMENT = NoSuchElementException.class;

    private TanksTest() {
    }

    private static FilterWaterworks works() {
        FilterWaterworks works = new FilterWaterworks();
        works.addTank(10);
        works.addTank(999);
        works.pour(1, 333, 0b10000001);
        return works;
    }

    private static void needsTank(Call call) {
        for (int tank : new int[] {-1, 2, 8, Integer.MAX_VALUE, Integer.MIN_VALUE}) {
            Check.thrown("tank " + tank, INDEX, () -> call.of(works(), tank));
        }
        Check.thrown("of none", INDEX, () -> call.of(new FilterWaterworks(), 0));
    }

    private interface Call {
        Object of(FilterWaterworks works, int tank);
    }

    static void promise10() {
        Check.due("none", 0, new FilterWaterworks().tankCount());
        Check.due("two", 2, works().tankCount());
    }

    static void promise11() {
        Check.due("first", 10, works().capacity(0));
        Check.due("second", 999, works().capacity(1));
        needsTank(FilterWaterworks::capacity);
    }

    static void promise12() {
        Check.due("first", 0, works().content(0));
        Check.due("second", 333, works().content(1));
        needsTank(FilterWaterworks::content);
    }

    static void promise13() {
        Check.due("first", 0, works().impurities(0));
        Check.due("second", 129, works().impurities(1));
        needsTank(FilterWaterworks::impurities);
    }

    static void promise14() {
        for (char letter = 'a'; letter <= 'h'; letter++) {
            Check.due("letter " + letter, letter == 'a' || letter == 'h', works().hasImpurity(1, letter));
            Check.due("pure " + letter, false, works().hasImpurity(0, letter));
        }
        for (char wrong : new char[] {'i', '`', 'A', 0, Character.MAX_VALUE}) {
            Check.thrown("letter", IllegalArgumentException.class, () -> works().hasImpurity(1, wrong));
        }
        needsTank((works, tank) -> works.hasImpurity(tank, 'a'));
        needsTank((works, tank) -> works.hasImpurity(tank, 'z'));
    }

    static void promise15() {
        FilterWaterworks works = new FilterWaterworks();
        Check.thrown("none", ELEMENT, () -> works.tankByContent(0));
        for (int tank = 0; tank < 5; tank++) {
            works.addTank(100);
        }
        works.pour(0, 20, 0b11);
        works.pour(1, 30, 0b11111111);
        works.pour(2, 20, 0b10000000);
        works.pour(4, 20, 0b1);
        int[] due = {1, 2, 4, 0, 3};
        for (int rank = 0; rank < 5; rank++) {
            Check.due("rank " + rank, due[rank], works.tankByContent(rank));
        }
        Check.thrown("behind", ELEMENT, () -> works.tankByContent(5));
        Check.thrown("before", ELEMENT, () -> works.tankByContent(-1));
    }

    static void promise16() {
        Check.due("empty", 0.0f, works().fillShare(0));
        Check.due("third", 333.0f / 999.0f, works().fillShare(1));
        FilterWaterworks works = works();
        works.pour(0, 10, 0);
        Check.due("full", 1.0f, works.fillShare(0));
        needsTank(FilterWaterworks::fillShare);
    }

    static void promise17() {
        for (int capacity = 10; capacity <= 999; capacity += 43) {
            FilterWaterworks works = new FilterWaterworks();
            works.addTank(capacity);
            for (int content = 0; content <= capacity && content < 250; content++) {
                int due = Float.floatToIntBits((float) content / (float) capacity);
                Check.due(content + " of " + capacity, due, works.fillShareBits(0));
                if (content < capacity) {
                    works.pour(0, 1, 0);
                }
            }
        }
        needsTank(FilterWaterworks::fillShareBits);
    }
}
