/** Promises 16 to 19: quarters to come. */
final class ComingEdges {
    private static final int UNKNOWN = AntLease.UNKNOWN, BAD = AntLease.BAD, NONE = AntLease.NONE;
    private static final int LEAST = Integer.MIN_VALUE, MOST = Integer.MAX_VALUE;

    private final Edges e;

    private ComingEdges(Edges e) {
        this.e = e;
    }

    static void test(Edges e) {
        ComingEdges edges = new ComingEdges(e);
        edges.later();
        edges.least();
        edges.judge();
        edges.share();
    }

    private void later() {
        e.of("Promise 16", "IN n QUARTERS: GOODWILL (what = 0), PINS (1), THINGS that are KNOWN (2: bits).", () -> {
            AntLease x = States.busy();
            e.dueRow("in 0", new long[] {2, 2, 0b10011}, x.later(0, 0), x.later(0, 1), x.later(0, 2));
            e.dueRow("in 1", new long[] {0, 3, 0b00001}, x.later(1, 0), x.later(1, 1), x.later(1, 2));
            e.dueRow("in 2", new long[] {1, 0, 0b10001}, x.later(2, 0), x.later(2, 1), x.later(2, 2));
            e.dueRow("in 20", new long[] {9, 0, 0b11111}, x.later(20, 0), x.later(20, 1), x.later(20, 2));
            e.dueRow("no things", new long[] {9, 0, 0}, new AntLease().later(9, 0), new AntLease().later(9, 1),
                    new AntLease().later(9, 2));
        });
        e.of("Promise 16", "BAD: n, what.", () -> {
            AntLease x = Check.manor("L09T0");
            e.dueRow("n", new long[] {-2, 9, 9, -2}, x.later(-1, 0), x.later(0, 0), x.later(20, 0), x.later(21, 0));
            e.dueAll("n, far beyond", BAD, x.later(LEAST, 0), x.later(MOST, 0));
            e.dueRow("what", new long[] {-2, 9, 1, -2}, x.later(1, -1), x.later(1, 0), x.later(1, 2), x.later(1, 3));
            e.dueAll("what, far beyond, and both", BAD, x.later(1, LEAST), x.later(1, MOST), x.later(21, 3),
                    x.later(-1, -1),
                    x.later(0, 3), x.later(0, -1));
        });
    }

    private void least() {
        e.of("Promise 17", "LEAST: how many GRAINS (what = 0), the figures (1); NONE.", () -> {
            AntLease x = Check.manor("L00F03F90F91");
            States.putUp(x, 1, 100);
            // a ten of the hoard, or five sweet ones
            e.dueRow("sweet ones", new long[] {5, 5}, x.least(0), x.least(1));
            States.eatUp(x, 2, 86);
            e.dueRow("four sweet ones and two plain ones", new long[] {6, 24}, x.least(0), x.least(1));
            States.eatUp(x, 2, 4);
            e.dueRow("no ten, and of plain ones nine at most", new long[] {NONE, NONE}, x.least(0), x.least(1));
            States.putUp(x, 0, 10);
            e.dueRow("a ten, and one is due more", new long[] {11, 110}, x.least(0), x.least(1));
            x.leave(0, 1);
            e.dueRow("it lies there", new long[] {1, 10}, x.least(0), x.least(1));
            x.leave(1, 1);
            e.dueRow("kept", new long[] {0, 0}, x.least(0), x.least(1));
        });
        e.of("Promise 17", "BAD.", () -> {
            AntLease x = new AntLease();
            e.dueRow("what", new long[] {-2, 0, 0, -2}, x.least(-1), x.least(0), x.least(1), x.least(2));
            e.dueAll("far beyond", BAD, x.least(LEAST), x.least(MOST));
            AntLease none = Check.manor("L00F00");
            States.putUp(none, 0, 10);
            States.eatUp(none, 0, 10);
            e.dueAll("bad where there is none", BAD, none.least(2), none.least(-1));
        });
    }

    private void judge() {
        e.of("Promise 18", "JUDGED; NONE.", () -> {
            AntLease x = States.busy();
            e.dueRow("one to four that can be", new long[] {NONE, NONE, NONE, NONE}, x.judge(1, 101), x.judge(2,
                    101201),
                    x.judge(3, 101201301), x.judge(4, 101201301401L));
            e.dueRow("the last can not be", new long[] {0, 1, 2, 3}, x.judge(1, 407), x.judge(2, 101407),
                    x.judge(3, 101201407), x.judge(4, 101201301407L));
        });
        e.of("Promise 18", "BAD: n, row (0 or more, 3 n figures at most).", () -> {
            AntLease x = new AntLease();
            e.dueRow("n", new long[] {-2, NONE, NONE, -2}, x.judge(0, 0), x.judge(1, 0), x.judge(4, 0), x.judge(5, 0));
            e.dueAll("n, far beyond", BAD, x.judge(LEAST, 0), x.judge(MOST, 0), x.judge(-1, 0));
            e.dueRow("row of one", new long[] {-2, NONE, 0, -2}, x.judge(1, -1), x.judge(1, 0), x.judge(1, 999),
                    x.judge(1, 1000));
            e.dueRow("row of two", new long[] {-2, NONE, 0, -2}, x.judge(2, -1), x.judge(2, 0), x.judge(2, 999999),
                    x.judge(2, 1000000));
            e.dueRow("row of three", new long[] {-2, NONE, 0, -2}, x.judge(3, -1), x.judge(3, 0), x.judge(3, 999999999),
                    x.judge(3, 1000000000));
            e.dueRow("row of four", new long[] {-2, NONE, 0, -2}, x.judge(4, -1), x.judge(4, 0), x.judge(4,
                    999999999999L),
                    x.judge(4, 1000000000000L));
            e.dueAll("row, far beyond", BAD, x.judge(4, Long.MAX_VALUE), x.judge(4, Long.MIN_VALUE), x.judge(1,
                    1L << 32),
                    x.judge(1, Long.MIN_VALUE), x.judge(5, -1), x.judge(0, 1000));
        });
    }

    private void share() {
        e.of("Promise 19", "SHARE.", () -> {
            AntLease x = Check.manor("L00F90F91");
            States.putUp(x, 0, 40);
            x.leave(0, 3);
            x.leave(1, 1);
            // due 4: the plain 3, or 2 behind the sweet 2; the sweet 2, or 1 behind the plain
            e.dueRow("plain", new long[] {5, 2}, x.share(0, true), x.share(0, false));
            e.dueRow("sweet", new long[] {3, 2}, x.share(1, true), x.share(1, false));
            AntLease y = Check.manor("L00F90");
            e.dueRow("nothing lies, nothing is due", new long[] {0, 1}, y.share(0, true), y.share(0, false));
        });
        e.of("Promise 19", "UNKNOWN.", () -> {
            for (int foods = 0; foods <= 4; foods++) {
                AntLease x = Check.manor("L00" + "F90".repeat(foods));
                e.dueAll("beyond " + foods, UNKNOWN, x.share(-1, true), x.share(foods, true), x.share(-1, false),
                        x.share(foods, false), x.share(LEAST, true), x.share(MOST, false));
                e.due("the last of " + foods, x.share(foods - 1, false), foods == 0 ? UNKNOWN : 1);
            }
        });
    }
}
