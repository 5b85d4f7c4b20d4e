/** Promises 20 to 22: said. */
final class SaidEdges {
    private static final int UNKNOWN = AntLease.UNKNOWN, BAD = AntLease.BAD, FULL = AntLease.FULL, NONE = AntLease.NONE;
    private static final int LEAST = Integer.MIN_VALUE, MOST = Integer.MAX_VALUE;

    private final Edges e;

    private SaidEdges(Edges e) {
        this.e = e;
    }

    static void test(Edges e) {
        SaidEdges edges = new SaidEdges(e);
        edges.say();
        edges.unsay();
        edges.lines();
    }

    private void say() {
        e.of("Promise 20", "SAID: how many there are.", () -> {
            AntLease x = new AntLease();
            for (int i = 1; i <= 6; i++) {
                e.dueRow("the same again", new long[] {i, i}, x.say(5, 1), x.about(12));
            }
            e.due("no act", x.about(11), 0);
        });
        e.of("Promise 20", "UNKNOWN: place; BAD: knew (0, 1);", () -> {
            AntLease x = new AntLease();
            e.dueRow("places", new long[] {-1, 1, 2, -1}, x.say(-1, 0), x.say(0, 0), x.say(9, 0), x.say(10, 0));
            e.dueAll("far beyond", UNKNOWN, x.say(LEAST, 1), x.say(MOST, 1), x.say(32, 0));
            e.dueRow("knew", new long[] {-2, 3, 4, -2}, x.say(4, -1), x.say(4, 0), x.say(4, 1), x.say(4, 2));
            e.dueAll("knew, far beyond", BAD, x.say(0, LEAST), x.say(9, MOST));
            e.dueAll("both", UNKNOWN, x.say(10, 2), x.say(-1, -1));
        });
        e.of("Promise 20", "FULL: 6.", () -> {
            AntLease x = new AntLease();
            for (int i = 0; i < 5; i++) {
                x.say(0, 0);
            }
            e.dueRow("five, six", new long[] {6, -4, -4, 6}, x.say(0, 0), x.say(0, 0), x.say(9, 1), x.about(12));
            e.due("the seventh does not count", x.lines(0), 45 + 0);
            e.dueRow("room again", new long[] {6, 1}, x.unsay(), x.say(9, 1));
            e.due("full has no other answer", States.fullSaid().say(0, 1), FULL);
        });
    }

    private void unsay() {
        e.of("Promise 21", "Nothing is SAID: how much there was.", () -> {
            AntLease x = new AntLease();
            for (int count = 0; count <= 6; count++) {
                for (int i = 0; i < count; i++) {
                    x.say(i, i % 2);
                }
                e.dueRow("of " + count, new long[] {count, 0, 100, 0}, x.unsay(), x.about(12), x.lines(0), x.unsay());
            }
        });
    }

    private void lines() {
        e.of("Promise 22", "LINES: how many (what = 0), the first one (1); NONE.", () -> {
            AntLease x = new AntLease();
            e.dueRow("all", new long[] {100, 0}, x.lines(0), x.lines(1));
            x.say(0, 0);
            // from s by less than s
            e.dueRow("not at 0", new long[] {45, 10}, x.lines(0), x.lines(1));
            x.say(9, 1);
            e.dueRow("but at 9", new long[] {25, 54}, x.lines(0), x.lines(1));
            x.say(8, 0);
            e.dueRow("not at 8", new long[] {1, 90}, x.lines(0), x.lines(1));
            x.say(9, 0);
            e.dueRow("none", new long[] {0, NONE}, x.lines(0), x.lines(1));
        });
        e.of("Promise 22", "BAD.", () -> {
            AntLease x = new AntLease();
            e.dueRow("what", new long[] {-2, 100, 0, -2}, x.lines(-1), x.lines(0), x.lines(1), x.lines(2));
            e.dueAll("far beyond", BAD, x.lines(LEAST), x.lines(MOST));
        });
    }
}
