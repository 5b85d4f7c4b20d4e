/** Promises 1 to 8: the manor. */
final class ManorEdges {
    private static final int UNKNOWN = AntLease.UNKNOWN, BAD = AntLease.BAD, LATE = AntLease.LATE, NONE = AntLease.NONE;
    private static final int LEAST = Integer.MIN_VALUE, MOST = Integer.MAX_VALUE;

    private final Edges e;

    private ManorEdges(Edges e) {
        this.e = e;
    }

    static void test(Edges e) {
        ManorEdges edges = new ManorEdges(e);
        edges.newObject();
        edges.text();
        edges.manor();
        edges.about();
        edges.food();
        edges.thing();
    }

    private void newObject() {
        e.of("Promise 1", "No foods, no things.", () -> {
            AntLease x = new AntLease();
            e.dueAll("how many", 0, x.about(0), x.about(1));
            for (int i = -1; i <= 5; i++) {
                e.dueAll("none of them", UNKNOWN, x.food(i, 0), x.put(i, 1), x.eat(i, 1), x.leave(i, 1), x.share(i,
                        true),
                        x.thing(i, 0), x.move(i, 0), x.rests(i, i + 1, 0));
            }
            e.dueAll("nothing done, nothing kept", LATE, x.undo(), x.again(0), x.again(1));
            States.busy();
            e.dueAll("whatever other objects hold", 0, x.about(0), x.about(1), x.about(11), x.about(12), x.about(13),
                    x.seed(0), x.unsay(), x.wipe());
        });
    }

    private void text() {
        e.of("Promise 2", "A byte (0 .. 255) comes behind THE TEXT: how long it is. BAD;", () -> {
            AntLease x = new AntLease();
            e.dueRow("both ends", new long[] {-2, 1, 2, -2}, x.write(-1), x.write(0), x.write(255), x.write(256));
            e.dueAll("far beyond", BAD, x.write(LEAST), x.write(MOST), x.write('L' + 256), x.write('L' - 256));
            e.due("how long", x.about(13), 2);
            x.wipe();
            e.dueRow("behind it", new long[] {1, 2, 3, NONE}, x.write('L'), x.write('0'), x.write('0'), x.fault());
        });
        e.of("Promise 2", "FULL: there are 48.", () -> {
            AntLease x = new AntLease();
            for (int i = 0; i < 47; i++) {
                x.write('L');
            }
            e.dueRow("47, 48", new long[] {48, -4, -4, 48}, x.write(0), x.write(0), x.write(255), x.about(13));
        });
        e.of("Promise 3", "THE TEXT is empty: how long it was.", () -> {
            AntLease x = new AntLease();
            e.dueRow("empty", new long[] {0, 0}, x.wipe(), x.about(13));
            x.write('L');
            e.dueRow("one", new long[] {1, 0, 0}, x.wipe(), x.about(13), x.wipe());
            AntLease full = States.fullText();
            e.dueRow("full", new long[] {48, 0, 0, 1}, full.wipe(), full.about(13), full.fault(), full.write('L'));
            AntLease y = Check.manor("L12F90T3");
            y.put(0, 1);
            e.dueRow("the manor stays", new long[] {8, 1, 1, 91, 3, 1}, y.wipe(), y.about(0), y.about(1), y.food(0, 1),
                    y.thing(0, 0), y.about(11));
        });
        e.of("Promise 4", "FAULT; NONE.", () -> {
            AntLease x = new AntLease();
            String text = "L12F90T3";
            int[] fault = {0, 1, 2, NONE, 4, 5, NONE, 7, NONE};
            for (int length = 0; length < text.length(); length++) {
                e.due("after " + length, x.fault(), fault[length]);
                x.write(text.charAt(length));
            }
            e.due("after all", x.fault(), NONE);
            x.write('3');
            e.dueAll("one too many", 8, x.fault(), x.fault());
        });
    }

    private void manor() {
        e.of("Promise 5", "THE TEXT is THE MANOR (no ACTS; what was kept is gone; SAID, THE SEED stay):", () -> {
            AntLease x = States.fullActs();
            Check.write(x, "0F50");
            x.manor();
            e.dueRow("no acts", new long[] {0, -3}, x.about(11), x.undo());
            e.dueAll("what was kept is gone", LATE, x.again(0), x.again(1));
            e.dueRow("said stays", new long[] {2, 2}, x.about(12), x.unsay());
            e.due("the seed stays", x.seed(0), 12345);
            e.due("the text stays", x.about(13), 6);
            x.put(0, 1);
            x.keep(0);
            e.dueRow("the same anew", new long[] {10, 50, 0, -3}, x.manor(), x.food(0, 1), x.about(11), x.again(0));
        });
        e.of("Promise 5", "10 times FOODS, and THINGS.", () -> {
            for (int foods = 0; foods <= 4; foods++) {
                for (int things = 0; things <= 5; things++) {
                    AntLease x = new AntLease();
                    Check.write(x, "L00" + "F00".repeat(foods) + "T0".repeat(things));
                    e.due("foods and things", x.manor(), 10 * foods + things);
                }
            }
        });
        e.of("Promise 5", "LATE: a FAULT.", () -> {
            String[] faulty = {"", "L", "L0", "L00F", "L00F0", "L00T", "L000", "M00", "L00F04", "L00F00F00F00F00F00",
                "L00T0T0T0T0T0T0"};
            for (String text : faulty) {
                e.dueUnchanged("'" + text + "'", () -> {
                    AntLease x = States.busy();
                    x.wipe();
                    Check.write(x, text);
                    return x;
                }, LATE, x -> x.manor());
            }
        });
    }

    private void about() {
        e.of("Promise 6", "FOODS (what = 0), THINGS (1), THE SKIRTING (2), GOODWILL (3), THE QUARTER (4), PINS (5), DUE (6),"
                + " SHORT (7), PLACES with POWDER (8: bits), PLACES to which ANTS go (9: bits), THINGS that are KNOWN"
                + " (10: bits), ACTS (11), SAID (12), bytes of THE TEXT (13).", () -> {
            AntLease x = States.busy();
            long[] want = {4, 5, 5, 2, 1, 2, 2, 1, 1 << 7, 0b1111000, 0b10011, 11, 2, 2};
            for (int what = 0; what < want.length; what++) {
                e.due("about(" + what + ")", x.about(what), want[what]);
            }
            AntLease y = Check.manor("L99F00F00F00F00T0T1T2T3T9");
            States.sprinkleAll(y, 9);
            e.dueRow("the first and the last bit", new long[] {0b111111111, 1 << 9, 1 << 4}, y.about(8), y.about(9),
                    y.about(10));
            y.undo();
            y.sprinkle(9);
            e.dueRow("the last place", new long[] {0b1011111111, 0, 0}, y.about(8), y.about(9), y.about(10));
        });
        e.of("Promise 6", "BAD.", () -> {
            AntLease x = new AntLease();
            e.dueRow("both ends", new long[] {-2, 0, 0, -2}, x.about(-1), x.about(0), x.about(13), x.about(14));
            e.dueAll("far beyond", BAD, x.about(LEAST), x.about(MOST), x.about(-13));
        });
    }

    private void food() {
        e.of("Promise 7", "Of a FOOD its KIND (what = 0), GRAINS in THE LARDER (1), on THE FLOOR (2), PUT UP (3), WORTH (4).", () -> {
            AntLease x = Check.manor("L00F10F21F32F93");
            long[][] want = {{0, 12, 3, 5, 3}, {1, 23, 3, 6, 6}, {2, 34, 3, 7, 1}, {3, 68, 30, 8, 30}};
            for (int food = 0; food < 4; food++) {
                x.put(food, 5 + food);
                x.leave(food, 3);
                e.dueRow("food " + food, want[food], x.food(food, 0), x.food(food, 1), x.food(food, 2), x.food(food, 3),
                        x.food(food, 4));
            }
            AntLease y = States.fullLarder();
            e.dueRow("all there can be", new long[] {999, 0, 909, 0}, y.food(0, 1), y.food(0, 2), y.food(0, 3),
                    y.food(0, 4));
        });
        e.of("Promise 7", "UNKNOWN; BAD.", () -> {
            for (int foods = 0; foods <= 4; foods++) {
                AntLease x = Check.manor("L00" + "F90".repeat(foods));
                e.dueAll("beyond " + foods, UNKNOWN, x.food(-1, 0), x.food(foods, 0), x.food(LEAST, 0),
                        x.food(MOST, 0));
                e.due("the last of " + foods, x.food(foods - 1, 1), foods == 0 ? UNKNOWN : 90);
            }
            AntLease x = Check.manor("L00F90");
            e.dueRow("what", new long[] {-2, 0, 0, -2}, x.food(0, -1), x.food(0, 0), x.food(0, 4), x.food(0, 5));
            e.dueAll("what, far beyond", BAD, x.food(0, LEAST), x.food(0, MOST));
            e.dueAll("both", UNKNOWN, x.food(1, -1), x.food(-1, 5));
        });
    }

    private void thing() {
        e.of("Promise 8", "Of a THING its PLACE (what = 0), where ANTS say that it is (1; NONE: it is not KNOWN),"
                + " ASTRAY (2; NONE).", () -> {
            AntLease x = Check.manor("L52T2T3T5T7T8");
            int[] place = {2, 3, 5, 7, 8};
            for (int thing = 0; thing < 5; thing++) {
                boolean known = thing >= 1 && thing <= 3;
                e.dueRow("thing " + thing, new long[] {place[thing], known ? place[thing] : NONE, known ? 0 : 1},
                        x.thing(thing, 0), x.thing(thing, 1), x.thing(thing, 2));
            }
            x.sprinkle(5);
            for (int thing = 0; thing < 5; thing++) {
                e.dueRow("nowhere: thing " + thing, new long[] {place[thing], NONE, NONE}, x.thing(thing, 0),
                        x.thing(thing, 1), x.thing(thing, 2));
            }
            AntLease ends = Check.manor("L09T0T9");
            e.dueRow("at both ends", new long[] {0, 9}, ends.thing(0, 1), ends.thing(1, 1));
        });
        e.of("Promise 8", "UNKNOWN; BAD.", () -> {
            for (int things = 0; things <= 5; things++) {
                AntLease x = Check.manor("L00" + "T4".repeat(things));
                e.dueAll("beyond " + things, UNKNOWN, x.thing(-1, 0), x.thing(things, 0), x.thing(LEAST, 0),
                        x.thing(MOST, 0));
                e.due("the last of " + things, x.thing(things - 1, 0), things == 0 ? UNKNOWN : 4);
            }
            AntLease x = Check.manor("L00T4");
            e.dueRow("what", new long[] {-2, 4, 4, -2}, x.thing(0, -1), x.thing(0, 0), x.thing(0, 2), x.thing(0, 3));
            e.dueAll("what, far beyond", BAD, x.thing(0, LEAST), x.thing(0, MOST));
            e.dueAll("both", UNKNOWN, x.thing(1, -1), x.thing(-1, 3));
        });
    }
}
