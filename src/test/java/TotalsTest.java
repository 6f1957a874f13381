/** Promises 40 to 49. */
final class TotalsTest {
    private TotalsTest() {
    }

    private static FilterWaterworks works() {
        FilterWaterworks works = ChangesTest.pair(100, 5, 4, 2);
        works.setLeak(0, 3);
        works.draw(0, 7);
        works.pour(1, 2, 0);
        works.advance(2);
        return works;
    }

    static void promise40() {
        FilterWaterworks works = works();
        Check.due("two", 2, works.time());
        works.advance(60);
        Check.due("more", 62, works.time());
        works.minutesUntilStill();
        Check.due("the same", 62, works.time());
    }

    static void promise41() {
        FilterWaterworks works = works();
        Check.due("sum", 102, works.pouredTotal());
        Check.thrown("too much", UnsupportedOperationException.class, () -> works.pour(0, 999, 0));
        Check.due("the same", 102, works.pouredTotal());
    }

    static void promise42() {
        FilterWaterworks works = works();
        Check.due("sum", 7, works.drawnTotal());
        works.draw(1, 1);
        Check.due("more", 8, works.drawnTotal());
    }

    static void promise43() {
        FilterWaterworks works = works();
        Check.due("sum", 6, works.spilledTotal());
        works.minutesUntilStill();
        Check.due("not predicted", 6, works.spilledTotal());
    }

    static void promise44() {
        Check.due("none", 0, new FilterWaterworks().totalContent());
        Check.due("both", 89, works().totalContent());
    }

    static void promise45() {
        Check.due("none", 0, new FilterWaterworks().totalContentByAccounts());
        Check.due("both", 89, works().totalContentByAccounts());
    }

    static void promise46() {
        Check.thrown("no tanks", ArithmeticException.class, () -> new FilterWaterworks().meanContent());
        Check.due("mean", 44.5, works().meanContent());
        FilterWaterworks works = works();
        works.addTank(10);
        Check.due("of three", 89.0 / 3.0, works.meanContent());
    }

    static void promise47() {
        Check.thrown("no tanks", ArithmeticException.class, () -> new FilterWaterworks().meanContentBits());
        for (int tanks = 1; tanks <= 8; tanks++) {
            FilterWaterworks works = new FilterWaterworks();
            for (int tank = 0; tank < tanks; tank++) {
                works.addTank(999);
            }
            for (int litres = 0; litres < 999; litres += 37) {
                long due = Double.doubleToLongBits((double) works.totalContent() / (double) tanks);
                Check.due(litres + " litres, " + tanks + " tanks", due, works.meanContentBits());
                works.pour(litres % tanks, 37 - tanks % 2, 0);
            }
        }
    }

    static void promise47SmallMeans() {
        FilterWaterworks works = new FilterWaterworks();
        for (int tank = 0; tank < 8; tank++) {
            works.addTank(10);
        }
        Check.due("none", 0L, works.meanContentBits());
        for (int litres = 1; litres <= 10; litres++) {
            works.pour(0, 1, 0);
            Check.due(litres + " litres", Double.doubleToLongBits(litres / 8.0), works.meanContentBits());
        }
    }

    static void promise48() {
        FilterWaterworks works = new FilterWaterworks();
        Check.due("nothing", 17L, works.fingerprint());
        works.addTank(100);
        Check.due("a tank", (17L << 5) ^ 100000L, works.fingerprint());
        works.pour(0, 60, 255);
        long first = (17L << 5) ^ 255100060L;
        Check.due("with water", first, works.fingerprint());
        works.addTank(999);
        long both = Long.rotateLeft(first, 5) ^ 999000L;
        works.addPipe(0, 1, 200);
        Check.due("a pipe", Long.rotateLeft(both, 7) ^ 2000000L, works.fingerprint());
        works.setValve(0, 4);
        works.setLeak(0, 9);
        Check.due("set", Long.rotateLeft(both, 7) ^ 2009004L, works.fingerprint());
        works.advance(1);
        long after = Long.rotateLeft((17L << 5) ^ 255100040L, 5) ^ 55999011L;
        Check.due("flown", Long.rotateLeft(after, 7) ^ 2009019L, works.fingerprint());
    }

    /** So many tanks and pipes that bits come round. */
    static void promise48Rotation() {
        FilterWaterworks works = new FilterWaterworks();
        long due = 17L;
        for (int tank = 0; tank < 8; tank++) {
            works.addTank(990 + tank);
            due = Long.rotateLeft(due, 5) ^ (990 + tank) * 1000L;
        }
        for (int pipe = 0; pipe < 12; pipe++) {
            works.addPipe(pipe % 8, (pipe + 1) % 8, 255 - pipe);
            due = Long.rotateLeft(due, 7) ^ (255 - pipe) * 10000L;
        }
        Check.due("all", due, works.fingerprint());
    }

    static void promise49() {
        FilterWaterworks works = new FilterWaterworks();
        Check.due("nothing", true, works.isConsistent());
        for (int tank = 0; tank < 8; tank++) {
            works.addTank(100 + tank);
            works.pour(tank, 10 + 12 * tank, 1 << tank);
            Check.due("tanks", true, works.isConsistent());
        }
        for (int pipe = 0; pipe < 12; pipe++) {
            works.addPipe(pipe % 8, (pipe + 1 + pipe % 7) % 8, 37 * pipe % 256);
            works.setValve(pipe, pipe % 5);
            works.setLeak(pipe, pipe % 10);
            works.advance(3);
            Check.due("pipes", true, works.isConsistent());
        }
    }
}
