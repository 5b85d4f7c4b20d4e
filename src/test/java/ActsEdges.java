/** Promises 9 to 15: acts. */
final class ActsEdges {
    private static final int UNKNOWN = AntLease.UNKNOWN, BAD = AntLease.BAD, LATE = AntLease.LATE, FULL = AntLease.FULL;
    private static final int LEAST = Integer.MIN_VALUE, MOST = Integer.MAX_VALUE;

    private final Edges e;

    private ActsEdges(Edges e) {
        this.e = e;
    }

    static void test(Edges e) {
        ActsEdges edges = new ActsEdges(e);
        edges.quarter();
        edges.put();
        edges.eat();
        edges.leave();
        edges.move();
        edges.sprinkle();
        edges.undo();
    }

    private void quarter() {
        e.of("Promise 9", "A QUARTER: GOODWILL then.", () -> {
            for (int g = 0; g <= 9; g++) {
                AntLease x = Check.manor("L5" + g + "F90");
                e.dueRow("kept from " + g, new long[] {Math.min(9, g + 1), Math.min(9, g + 1), 1, 1}, x.quarter(),
                        x.about(3), x.about(4), x.about(11));
                AntLease y = Check.manor("L5" + g + "F90");
                States.putUp(y, 0, 10);
                e.dueRow("short from " + g, new long[] {Math.max(0, g - 1), Math.max(0, g - 1), 1, 1}, y.quarter(),
                        y.about(3), y.about(4), y.about(5));
            }
        });
    }

    private void put() {
        e.of("Promise 10", "PUT UP: GRAINS of it in THE LARDER.", () -> {
            AntLease x = Check.manor("L00F10F03");
            e.dueRow("plain, hoard", new long[] {11, 20, 9, 10}, x.put(0, 1), x.put(0, 9), x.put(1, 9), x.put(1, 1));
            e.dueRow("put up", new long[] {10, 10, 0, 0}, x.food(0, 3), x.food(1, 3), x.food(0, 2), x.food(1, 2));
        });
        e.of("Promise 10", "UNKNOWN; BAD: n;", () -> {
            AntLease x = Check.manor("L00F10F03");
            e.dueRow("foods", new long[] {-1, 11, 1, -1}, x.put(-1, 1), x.put(0, 1), x.put(1, 1), x.put(2, 1));
            e.dueAll("far beyond", UNKNOWN, x.put(LEAST, 1), x.put(MOST, 1), x.put(2, 0), x.put(2, 10));
            e.dueRow("n", new long[] {-2, 12, 21, -2}, x.put(0, 0), x.put(0, 1), x.put(0, 9), x.put(0, 10));
            e.dueAll("n, far beyond", BAD, x.put(0, LEAST), x.put(0, MOST), x.put(0, -1));
        });
        e.of("Promise 10", "FULL: there would be more than 999.", () -> {
            for (int n = 1; n <= 9; n++) {
                AntLease x = Check.manor("L00F90F90");
                States.putUp(x, 0, 910 - n);
                e.due("1000 by " + n, x.put(0, n), FULL);
                x.eat(0, 1);
                e.dueRow("999 by " + n, new long[] {999, -4}, x.put(0, n), x.put(0, 1));
                e.due("the other food has room", x.put(1, n), 90 + n);
            }
            AntLease y = States.fullLarder();
            y.leave(0, 9);
            e.dueRow("what is left makes room", new long[] {999, -4, 9}, y.put(0, 9), y.put(0, 1), y.food(0, 2));
        });
    }

    private void eat() {
        e.of("Promise 11", "EATEN: GRAINS of it in THE LARDER.", () -> {
            AntLease x = Check.manor("L00F20F23");
            e.dueRow("plain, hoard", new long[] {19, 10, 19, 10}, x.eat(0, 1), x.eat(0, 9), x.eat(1, 1), x.eat(1, 9));
            e.dueAll("nothing else", 0, x.food(0, 2), x.food(0, 3), x.food(1, 2), x.food(1, 3));
        });
        e.of("Promise 11", "UNKNOWN; BAD: n;", () -> {
            AntLease x = Check.manor("L00F90F90");
            e.dueRow("foods", new long[] {-1, 89, 89, -1}, x.eat(-1, 1), x.eat(0, 1), x.eat(1, 1), x.eat(2, 1));
            e.dueAll("far beyond", UNKNOWN, x.eat(LEAST, 1), x.eat(MOST, 1), x.eat(2, 0), x.eat(2, 10));
            e.dueRow("n", new long[] {-2, 88, 79, -2}, x.eat(0, 0), x.eat(0, 1), x.eat(0, 9), x.eat(0, 10));
            e.dueAll("n, far beyond", BAD, x.eat(0, LEAST), x.eat(0, MOST), x.eat(0, -1));
        });
        e.of("Promise 11", "LATE: there are fewer.", () -> {
            for (int n = 1; n <= 9; n++) {
                AntLease x = Check.manor("L00F10F90");
                States.eatUp(x, 0, 10 - n + 1);
                e.due(n + " of one fewer", x.eat(0, n), LATE);
                x.put(0, 1);
                e.dueRow(n + " of as many", new long[] {0, -3}, x.eat(0, n), x.eat(0, 1));
            }
        });
    }

    private void leave() {
        e.of("Promise 12", "LEFT: GRAINS of it on THE FLOOR.", () -> {
            AntLease x = Check.manor("L00F90F91F92F93");
            e.dueRow("once", new long[] {1, 1, 1, 10}, x.leave(0, 1), x.leave(1, 1), x.leave(2, 1), x.leave(3, 1));
            e.dueRow("more", new long[] {10, 10, 10, 90}, x.leave(0, 9), x.leave(1, 9), x.leave(2, 9), x.leave(3, 8));
            e.dueRow("larder", new long[] {80, 80, 80, 0}, x.food(0, 1), x.food(1, 1), x.food(2, 1), x.food(3, 1));
        });
        e.of("Promise 12", "UNKNOWN; BAD: n;", () -> {
            AntLease x = Check.manor("L00F90F93");
            e.dueRow("foods", new long[] {-1, 1, 10, -1}, x.leave(-1, 1), x.leave(0, 1), x.leave(1, 1), x.leave(2, 1));
            e.dueAll("far beyond", UNKNOWN, x.leave(LEAST, 1), x.leave(MOST, 1), x.leave(2, 0), x.leave(2, 10));
            e.dueRow("n", new long[] {-2, 2, 11, -2}, x.leave(0, 0), x.leave(0, 1), x.leave(0, 9), x.leave(0, 10));
            e.dueAll("n, far beyond", BAD, x.leave(0, LEAST), x.leave(0, MOST), x.leave(0, -1), x.leave(1, 0),
                    x.leave(1, 10), x.leave(1, LEAST), x.leave(1, MOST), x.leave(1, 1 << 31));
        });
        e.of("Promise 12", "LATE: there are fewer in THE LARDER.", () -> {
            for (int n = 1; n <= 9; n++) {
                AntLease x = Check.manor("L00F10F" + n + "3");
                States.eatUp(x, 0, 10 - n + 1);
                x.eat(1, 1);
                e.dueAll(n + " of one fewer", LATE, x.leave(0, n), x.leave(1, n));
                x.put(0, 1);
                x.put(1, 1);
                e.dueRow(n + " of as many", new long[] {n, 10 * n, -3, -3}, x.leave(0, n), x.leave(1, n), x.leave(0, 1),
                        x.leave(1, 1));
            }
        });
    }

    private void move() {
        e.of("Promise 13", "MOVED: how far.", () -> {
            for (int from = 0; from <= 9; from++) {
                AntLease x = Check.manor("L00T" + from);
                for (int to = 0; to <= 9; to++) {
                    if (to != from) {
                        e.dueRow("from " + from + " to " + to, new long[] {Math.abs(to - from), to}, x.move(0, to),
                                x.thing(0, 0));
                        x.undo();
                    }
                }
            }
        });
        e.of("Promise 13", "UNKNOWN: thing, place;", () -> {
            AntLease x = Check.manor("L00T4T5");
            e.dueRow("things", new long[] {-1, 1, 2, -1}, x.move(-1, 3), x.move(0, 3), x.move(1, 3), x.move(2, 3));
            e.dueRow("places", new long[] {-1, 3, 9, -1}, x.move(0, -1), x.move(0, 0), x.move(0, 9), x.move(0, 10));
            e.dueAll("far beyond", UNKNOWN, x.move(LEAST, 0), x.move(MOST, 0), x.move(0, LEAST), x.move(0, MOST),
                    x.move(2, 10), x.move(-1, -1));
        });
        e.of("Promise 13", "LATE: it is there.", () -> {
            for (int place = 0; place <= 9; place++) {
                AntLease x = Check.manor("L00T5T" + place);
                e.due("told there", x.move(1, place), LATE);
                x.move(0, place == 5 ? 6 : 5);
                x.move(0, place);
                e.dueRow("moved there", new long[] {-3, place}, x.move(0, place), x.thing(0, 0));
            }
        });
    }

    private void sprinkle() {
        e.of("Promise 14", "SPRINKLED: how many PLACES have POWDER.", () -> {
            AntLease x = new AntLease();
            for (int count = 1; count <= 10; count++) {
                e.due("sprinkled", x.sprinkle(10 - count), count);
            }
            e.due("everywhere", x.about(8), 0b1111111111);
            x.quarter();
            e.due("the first of the next quarter", x.sprinkle(3), 1);
        });
        e.of("Promise 14", "UNKNOWN; LATE: there is some.", () -> {
            AntLease x = new AntLease();
            e.dueRow("places", new long[] {-1, 1, 2, -1}, x.sprinkle(-1), x.sprinkle(0), x.sprinkle(9), x.sprinkle(10));
            e.dueAll("far beyond", UNKNOWN, x.sprinkle(LEAST), x.sprinkle(MOST), x.sprinkle(32), x.sprinkle(41),
                    x.sprinkle(-32));
            e.dueRow("there is some", new long[] {-3, -3, 3, -3, 0b1000000011}, x.sprinkle(0), x.sprinkle(9),
                    x.sprinkle(1),
                    x.sprinkle(1), x.about(8));
        });
    }

    private void undo() {
        e.of("Promise 15", "The last ACT is undone: how many are left.", () -> {
            e.dueUnchanged("a quarter", States::busy, 11, x -> x.quarter() < 0 ? LATE : x.undo());
            e.dueUnchanged("put", States::busy, 11, x -> x.put(0, 9) < 0 ? LATE : x.undo());
            e.dueUnchanged("eat", States::busy, 11, x -> x.eat(0, 9) < 0 ? LATE : x.undo());
            e.dueUnchanged("leave", States::busy, 11, x -> x.leave(3, 9) < 0 ? LATE : x.undo());
            e.dueUnchanged("move", States::busy, 11, x -> x.move(2, 0) < 0 ? LATE : x.undo());
            e.dueUnchanged("sprinkle", States::busy, 11, x -> x.sprinkle(5) < 0 ? LATE : x.undo());
            AntLease x = States.fullActs();
            for (int left = 13; left >= 0; left--) {
                e.dueRow("from a full row", new long[] {left, left}, x.undo(), x.about(11));
            }
            AntLease y = Check.manor("L00F90");
            y.put(0, 1);
            y.say(3, 1);
            y.seed(7);
            y.write('X');
            y.keep(1);
            e.dueRow("what is no act stays", new long[] {0, 1, 7, 7, 0}, y.undo(), y.about(12), y.about(13),
                    y.seed(0), y.again(1));
            e.due("what was kept is not undone", y.food(0, 1), 91);
        });
        e.of("Promise 15", "LATE: there is none.", () -> {
            AntLease x = new AntLease();
            e.due("at first", x.undo(), LATE);
            x.sprinkle(0);
            e.dueRow("one", new long[] {0, -3, -3}, x.undo(), x.undo(), x.undo());
            AntLease y = States.busy();
            y.again(0);
            e.due("gone on from a slot", y.undo(), LATE);
            AntLease z = Check.manor("L00F90");
            z.put(0, 1);
            z.manor();
            e.due("made anew", z.undo(), LATE);
            z.put(0, 0);
            z.keep(0);
            z.say(0, 0);
            z.years(30);
            e.due("nothing of this is an act", z.undo(), LATE);
        });
    }
}
