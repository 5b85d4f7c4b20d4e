/** Promises 27 and 28: slots. */
final class SlotsEdges {
    private static final int UNKNOWN = AntLease.UNKNOWN, LATE = AntLease.LATE;
    private static final int LEAST = Integer.MIN_VALUE, MOST = Integer.MAX_VALUE;

    private final Edges e;

    private SlotsEdges(Edges e) {
        this.e = e;
    }

    static void test(Edges e) {
        SlotsEdges edges = new SlotsEdges(e);
        edges.keep();
        edges.again();
    }

    private void keep() {
        e.of("Promise 27", "They are kept: THE QUARTER.", () -> {
            AntLease x = Check.manor("L00F90");
            e.dueRow("at first", new long[] {0, 0}, x.keep(0), x.about(11));
            x.quarter();
            x.quarter();
            e.dueRow("two quarters on", new long[] {2, 2}, x.keep(1), x.about(11));
            x.quarter();
            e.dueRow("over what was kept", new long[] {3, 3}, x.keep(0), x.about(11));
            x.undo();
            e.dueRow("each for itself", new long[] {3, 2, 3}, x.again(0), x.again(1), x.again(0));
            AntLease bare = new AntLease();
            bare.keep(1);
            bare.sprinkle(4);
            e.dueRow("before there is a manor", new long[] {0, 0}, bare.again(1), bare.about(8));
            AntLease same = States.busy();
            long acts = same.about(11);
            same.keep(0);
            e.dueRow("no act, none forgotten", new long[] {acts, acts - 1}, same.about(11), same.undo());
        });
        e.of("Promise 27", "UNKNOWN.", () -> {
            AntLease x = new AntLease();
            e.dueRow("slots", new long[] {-1, 0, 0, -1}, x.keep(-1), x.keep(0), x.keep(1), x.keep(2));
            e.dueAll("far beyond", UNKNOWN, x.keep(LEAST), x.keep(MOST), x.keep(32), x.keep(-32));
        });
    }

    private void again() {
        e.of("Promise 28", "They are as they were kept: THE QUARTER.", () -> {
            for (int slot = 0; slot <= 1; slot++) {
                int kept = slot;
                e.dueUnchanged("kept, changed, gone on from", () -> {
                    AntLease x = States.fullActs();
                    x.keep(kept);
                    x.again(kept);
                    return x;
                }, 1, x -> {
                    x.put(0, 9);
                    x.leave(3, 2);
                    x.move(2, 2);
                    x.sprinkle(1);
                    x.quarter();
                    x.quarter();
                    return x.again(kept);
                });
            }
            AntLease x = States.busy();
            e.dueRow("as often as one likes", new long[] {1, 1, 1, 77, 77}, x.again(0), x.again(0), x.again(0),
                    x.food(0, 1),
                    x.food(0, 1));
            x.say(1, 1);
            x.seed(8);
            x.again(1);
            e.dueRow("said, the seed, the text are not kept", new long[] {3, 8, 2}, x.about(12), x.seed(0),
                    x.about(13));
        });
        e.of("Promise 28", "UNKNOWN; LATE: none were kept.", () -> {
            AntLease x = new AntLease();
            e.dueRow("slots", new long[] {-1, -3, -3, -1}, x.again(-1), x.again(0), x.again(1), x.again(2));
            e.dueAll("far beyond", UNKNOWN, x.again(LEAST), x.again(MOST), x.again(32), x.again(-32));
            x.keep(1);
            e.dueRow("kept in one of them", new long[] {-3, 0}, x.again(0), x.again(1));
            AntLease y = Check.manor("L00F90");
            y.keep(0);
            y.put(0, 9);
            y.manor();
            e.dueAll("gone with the manor", LATE, y.again(0), y.again(1));
            e.dueRow("kept anew", new long[] {0, 0, 90}, y.keep(0), y.again(0), y.food(0, 1));
        });
    }
}
