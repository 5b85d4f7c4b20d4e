/** Promises 23 to 26: rests, chances. */
final class ChancesEdges {
    private static final int UNKNOWN = AntLease.UNKNOWN, BAD = AntLease.BAD;
    private static final int LEAST = Integer.MIN_VALUE, MOST = Integer.MAX_VALUE;

    private final Edges e;

    private ChancesEdges(Edges e) {
        this.e = e;
    }

    static void test(Edges e) {
        ChancesEdges edges = new ChancesEdges(e);
        edges.rests();
        edges.stray();
        edges.seed();
        edges.years();
    }

    private void rests() {
        e.of("Promise 23", "RESTS: how many (what = 0), the first one (1); NONE.", () -> {
            AntLease x = Check.manor("L00F90F91F92F93");
            e.dueRow("nothing is due: there is always one", new long[] {1, 0}, x.rests(0, 1, 0), x.rests(0, 1, 1));
            States.putUp(x, 0, 10);
            e.dueRow("plain and sweet", new long[] {2, 1}, x.rests(0, 1, 0), x.rests(0, 1, 1));
            e.dueRow("plain and salt", new long[] {2, 2}, x.rests(0, 2, 0), x.rests(0, 2, 1));
            e.dueRow("hoard and salt", new long[] {2, 2}, x.rests(3, 2, 0), x.rests(3, 2, 1));
            e.dueRow("salt and hoard", new long[] {2, 1}, x.rests(2, 3, 0), x.rests(2, 3, 1));
            e.dueUnchanged("nothing is left by it", States::busy, 2, y -> y.rests(0, 1, 0));
        });
        e.of("Promise 23", "UNKNOWN: both; BAD: both are one, what.", () -> {
            AntLease x = Check.manor("L00F90F90");
            e.dueRow("the one", new long[] {-1, 1, 1, -1}, x.rests(-1, 0, 0), x.rests(0, 1, 0), x.rests(1, 0, 0),
                    x.rests(2, 0, 0));
            e.dueRow("the other", new long[] {-1, -1}, x.rests(0, -1, 0), x.rests(0, 2, 0));
            e.dueAll("far beyond", UNKNOWN, x.rests(LEAST, 0, 0), x.rests(MOST, 0, 0), x.rests(0, LEAST, 0),
                    x.rests(0, MOST, 0));
            e.dueAll("unknown and one", UNKNOWN, x.rests(2, 2, 0), x.rests(-1, -1, 1));
            e.dueAll("unknown and what", UNKNOWN, x.rests(2, 0, 2), x.rests(0, 2, -1));
            e.dueAll("both are one", BAD, x.rests(0, 0, 0), x.rests(1, 1, 1), x.rests(1, 1, 2));
            e.dueRow("what", new long[] {-2, 1, 0, -2}, x.rests(0, 1, -1), x.rests(0, 1, 0), x.rests(0, 1, 1),
                    x.rests(0, 1, 2));
            e.dueAll("what, far beyond", BAD, x.rests(0, 1, LEAST), x.rests(0, 1, MOST));
            e.dueAll("one food is no two", UNKNOWN, Check.manor("L00F90").rests(0, 1, 0),
                    Check.manor("L00F90").rests(1, 0, 0));
        });
    }

    private void stray() {
        e.of("Promise 24", "STRAY.", () -> {
            AntLease x = Check.manor("L52T7T2T5");
            // out by three tenths, in by three tenths, surely in
            long[][] want = {{1, 1}, {1, 1}, {79, 100}, {21, 100}, {0, 1}, {0, 1}};
            for (int m = 0; m <= 5; m++) {
                e.dueRow(m + " or more", want[m], x.stray(m, 3, true), x.stray(m, 3, false));
            }
            e.dueUnchanged("nothing is moved by it", States::busy, 1, y -> y.stray(2, 10, false));
        });
        e.of("Promise 24", "BAD: m, x.", () -> {
            AntLease x = Check.manor("L52T5");
            e.dueRow("m", new long[] {-2, 1, 0, -2}, x.stray(-1, 5, true), x.stray(0, 5, true), x.stray(5, 5, true),
                    x.stray(6, 5, true));
            e.dueRow("x", new long[] {-2, 1, 1, -2}, x.stray(1, -1, false), x.stray(1, 0, false), x.stray(1, 10, false),
                    x.stray(1, 11, false));
            e.dueAll("far beyond, and both", BAD, x.stray(LEAST, 0, true), x.stray(MOST, 0, true), x.stray(0, LEAST,
                    true),
                    x.stray(0, MOST, false), x.stray(6, 11, true), x.stray(-1, -1, false));
        });
    }

    private void seed() {
        e.of("Promise 25", "THE SEED is v: what it was.", () -> {
            AntLease x = new AntLease();
            long[] seeds = {Long.MIN_VALUE, Long.MAX_VALUE, -1, 1, 0, -9};
            long was = 0;
            for (long seed : seeds) {
                e.due("before " + seed, x.seed(seed), was);
                was = seed;
            }
            x.years(1);
            e.due("after a year", x.seed(0), Seeds.after(-9));
            AntLease y = States.busy();
            y.again(0);
            y.undo();
            y.wipe();
            Check.write(y, "L00");
            y.manor();
            e.due("whatever is done", y.seed(0), 12345);
        });
    }

    private void years() {
        e.of("Promise 26", "YEARS.", () -> {
            AntLease x = Check.manor("L50F00F91");
            e.due("goodwill each time", Seeds.years(x, 26, 27, 16, 28), 1 + 2 + 2 + 2);
            e.due("short for once", Seeds.years(x, 26, 0, 1, 29), 1 + 1 + 1 + 0);
            e.due("and kept", Seeds.years(x, 0, 1, 10, 30), 0 + 0 + 0 + 1);
            AntLease y = Check.manor("L50F00F91");
            AntLease whole = Check.manor("L50F00F91");
            y.seed(99);
            whole.seed(99);
            y.years(17);
            y.years(13);
            whole.years(30);
            e.due("the seed goes on from where it was", y.seed(0), whole.seed(0));
            e.due("the manor does not", y.about(3), 0);
        });
        e.of("Promise 26", "BAD: m.", () -> {
            AntLease x = Check.manor("L59");
            x.seed(3);
            e.dueAll("0 and 31", BAD, x.years(0), x.years(31), x.years(-1), x.years(LEAST), x.years(MOST));
            e.due("the seed stays", x.seed(Seeds.leadingTo(31)), 3);
            e.due("1", x.years(1), 9);
            x.seed(4);
            e.due("30", x.years(30), Seeds.yearsWithoutFoods(4, 9, 30));
            long after = 4;
            for (int i = 0; i < 30; i++) {
                after = Seeds.after(after);
            }
            e.due("thirty times", x.seed(0), after);
        });
    }
}
