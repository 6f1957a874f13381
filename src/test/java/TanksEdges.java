/** The boundaries that the promises 10 to 17 name. */
final class TanksEdges {
    private TanksEdges() {
    }

    @Sentence(promise = 10, value = "Returns the number of tanks.")
    static void promise10NoneToEight() {
        for (int tanks = 0; tanks <= 8; tanks++) {
            Check.due("tanks", tanks, Edges.tanks(tanks).tankCount());
        }
        FilterWaterworks works = Edges.tanks(8);
        Check.thrown("a ninth", Edges.STATE, () -> works.addTank(10));
        Check.due("refused ones do not count", 8, works.tankCount());
    }

    @Sentence(promise = 11, value = Edges.NO_TANK)
    static void promise11NoTank() {
        Edges.needsTank(FilterWaterworks::capacity);
    }

    @Sentence(promise = 12, value = Edges.NO_TANK)
    static void promise12NoTank() {
        Edges.needsTank(FilterWaterworks::content);
    }

    @Sentence(promise = 13, value = Edges.NO_TANK)
    static void promise13NoTank() {
        Edges.needsTank(FilterWaterworks::impurities);
    }

    @Sentence(promise = 14, value = Edges.NO_TANK)
    static void promise14NoTank() {
        Edges.needsTank((works, tank) -> works.hasImpurity(tank, 'h'));
    }

    @Sentence(promise = 14, value = "Returns true if it has it.")
    static void promise14NoneAndAllImpurities() {
        FilterWaterworks works = new FilterWaterworks();
        works.addTank(10);
        for (char letter = 'a'; letter <= 'h'; letter++) {
            Check.due("an empty tank", false, works.hasImpurity(0, letter));
        }
        works.pour(0, 1, 0);
        for (char letter = 'a'; letter <= 'h'; letter++) {
            Check.due("pure water", false, works.hasImpurity(0, letter));
        }
        works.pour(0, 1, 255);
        for (char letter = 'a'; letter <= 'h'; letter++) {
            Check.due("all of them", true, works.hasImpurity(0, letter));
        }
    }

    @Sentence(promise = 14, value = "Throws `IllegalArgumentException` if the letter is not from 'a' to 'h'")
    static void promise14Letters() {
        FilterWaterworks works = Edges.tanks(1);
        works.pour(0, 1, 0b10000000);
        Check.due("the first letter", true, works.hasImpurity(0, 'a'));
        Check.due("the second one", false, works.hasImpurity(0, 'b'));
        Check.due("the last but one", false, works.hasImpurity(0, 'g'));
        Check.due("the last one", true, works.hasImpurity(0, 'h'));
        for (char none : new char[] {0, '\1', ' ', 'A', 'H', '`', 'i', 'z', 128 + 'a', 256 + 'a', Character.MAX_VALUE}) {
            Edges.refused("letter " + (int) none, Edges.ARGUMENT, it -> it.hasImpurity(0, none));
        }
    }

    // ---- rankings ----

    private static void ranks(FilterWaterworks works, int... due) {
        for (int rank = 0; rank < due.length; rank++) {
            Check.due("rank " + rank, due[rank], works.tankByContent(rank));
        }
    }

    @Sentence(promise = 15, value = Edges.RANK)
    static void promise15CountedFrom0() {
        FilterWaterworks works = Edges.tanks(2);
        works.pour(1, 1, 0);
        ranks(works, 1, 0);
    }

    @Sentence(promise = 15, value = Edges.NO_RANK)
    static void promise15NoRank() {
        for (int tanks = 0; tanks <= 8; tanks++) {
            FilterWaterworks works = Edges.tanks(tanks);
            for (int none : new int[] {Integer.MIN_VALUE, -1, tanks, tanks + 1, Integer.MAX_VALUE}) {
                Check.thrown(tanks + " tanks, rank " + none, Edges.ELEMENT, () -> works.tankByContent(none));
            }
            if (tanks > 0) {
                Check.due("the last rank", tanks - 1, works.tankByContent(tanks - 1));
            }
        }
        Edges.refused("rank 3 of 3", Edges.ELEMENT, works -> works.tankByContent(3));
        Edges.refused("rank -1", Edges.ELEMENT, works -> works.tankByContent(-1));
    }

    private static final String SORTED = "Returns the tank at a rank when tanks are sorted by content in descending order,"
            + " then by the number of impurities in ascending order, then by index in ascending order.";

    @Sentence(promise = 15, value = SORTED)
    static void promise15ByIndex() {
        ranks(Edges.tanks(8), 0, 1, 2, 3, 4, 5, 6, 7);
    }

    @Sentence(promise = 15, value = SORTED)
    static void promise15ByContent() {
        FilterWaterworks works = Edges.tanks(4);
        works.pour(1, 1, 255);
        works.draw(2, 1);
        works.draw(0, 50);
        ranks(works, 1, 3, 2, 0);
    }

    /** By their number, not by the sets as numbers. */
    @Sentence(promise = 15, value = SORTED)
    static void promise15ByTheNumberOfImpurities() {
        FilterWaterworks works = new FilterWaterworks();
        int[] sets = {255, 0b111, 0b10000000, 0, 0b11000000, 0b1, 0b01111111, 0b11};
        for (int tank = 0; tank < 8; tank++) {
            works.addTank(10);
            works.pour(tank, 10, sets[tank]);
        }
        ranks(works, 3, 2, 5, 4, 7, 1, 6, 0);
    }

    // ---- shares ----

    @Sentence(promise = 16, value = Edges.NO_TANK)
    static void promise16NoTank() {
        Edges.needsTank(FilterWaterworks::fillShare);
    }

    @Sentence(promise = 16, value = "Returns the share of the capacity that is filled: content and capacity converted to"
            + " float and divided.")
    static void promise16EmptyAndFull() {
        for (int capacity : new int[] {10, 11, 998, 999}) {
            FilterWaterworks works = new FilterWaterworks();
            works.addTank(capacity);
            Check.due("empty", 0.0f, works.fillShare(0));
            works.pour(0, 1, 0);
            Check.due("1 litre", 1.0f / capacity, works.fillShare(0));
            works.pour(0, capacity - 2, 0);
            Check.due("1 litre less than full", (float) (capacity - 1) / (float) capacity, works.fillShare(0));
            works.pour(0, 1, 0);
            Check.due("full", 1.0f, works.fillShare(0));
        }
    }

    @Sentence(promise = 17, value = Edges.NO_TANK)
    static void promise17NoTank() {
        Edges.needsTank(FilterWaterworks::fillShareBits);
    }

    @Sentence(promise = 17, value = "Returns the bits of fillShare, as Float.floatToIntBits tells them.")
    static void promise17EmptyAndFull() {
        FilterWaterworks works = new FilterWaterworks();
        works.addTank(999);
        Check.due("empty", 0, works.fillShareBits(0));
        works.pour(0, 1, 0);
        Check.due("the least share", 0x3A833405, works.fillShareBits(0));
        works.pour(0, 997, 0);
        Check.due("the greatest share below 1", 0x3F7FBE66, works.fillShareBits(0));
        works.pour(0, 1, 0);
        Check.due("full", 0x3F800000, works.fillShareBits(0));
    }

    /** Every share that a tank can have. */
    @Sentence(promise = 17, value = "Returns the bits of fillShare, as Float.floatToIntBits tells them.")
    static void promise17EachShare() {
        for (int capacity = 10; capacity <= 999; capacity++) {
            for (int content = 1; content <= capacity; content += 250) {
                sharesFrom(content, Math.min(capacity, content + 249), capacity);
            }
        }
    }

    /** So few contents that the calls on one object stay under 512. */
    private static void sharesFrom(int least, int greatest, int capacity) {
        FilterWaterworks works = new FilterWaterworks();
        works.addTank(capacity);
        works.pour(0, least, 0);
        for (int content = least; content <= greatest; content++) {
            int due = Float.floatToIntBits((float) content / (float) capacity);
            Check.due(content + " of " + capacity, due, works.fillShareBits(0));
            if (content < greatest) {
                works.pour(0, 1, 0);
            }
        }
    }
}
