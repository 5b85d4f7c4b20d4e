/** "Terms", part 1: the text, the manor, doings, quarters, ants, acts. */
final class Part1Edges {
    private static final String PART = "Part 1";

    private final Edges e;

    private Part1Edges(Edges e) {
        this.e = e;
    }

    static void test(Edges e) {
        Part1Edges part = new Part1Edges(e);
        part.text();
        part.parts();
        part.fault();
        part.beginnings();
        part.doings();
        part.worthAndDue();
        part.quarters();
        part.ants();
        part.acts();
    }

    private static int faultOf(String text) {
        AntLease x = new AntLease();
        Check.write(x, text);
        return x.fault();
    }

    private void text() {
        e.of(PART, "PLACES are 0 .. 9 along a passage.", () -> {
            AntLease x = Check.manor("L50T5");
            e.dueRow("move", new long[] {-1, 5, 9, -1}, x.move(0, -1), x.move(0, 0), x.move(0, 9), x.move(0, 10));
            e.dueRow("sprinkle", new long[] {-1, 1, 2, -1}, x.sprinkle(-1), x.sprinkle(0), x.sprinkle(9),
                    x.sprinkle(10));
            e.dueRow("say", new long[] {-1, 1, 2, -1}, x.say(-1, 1), x.say(0, 1), x.say(9, 1), x.say(10, 1));
            e.due("powder at both ends", x.about(8), 0b1000000001);
        });
        e.of(PART, "THE TEXT is bytes (48 at most).", () -> {
            AntLease x = new AntLease();
            for (int round = 0; round < 2; round++) {
                for (int i = 1; i <= 48; i++) {
                    e.due("byte " + i, x.write(i % 2 == 0 ? 0 : 255), i);
                }
                e.due("byte 49", x.write('L'), AntLease.FULL);
                e.due("how long", x.about(13), 48);
                e.due("wiped", x.wipe(), 48);
            }
        });
        e.of(PART, "A MANOR is a TEXT: L, s (0 .. 9: PLACE of THE SKIRTING), g (0 .. 9: GOODWILL),", () -> {
            for (int line = 0; line < 100; line++) {
                AntLease x = Check.manor("L" + line / 10 + line % 10);
                e.due("skirting of " + line, x.about(2), line / 10);
                e.due("goodwill of " + line, x.about(3), line % 10);
            }
            e.dueAll("beside L", 0, faultOf("K00"), faultOf("M00"), faultOf("l00"));
            e.dueAll("beside 0 .. 9: s", 1, faultOf("L/0"), faultOf("L:0"));
            e.dueAll("beside 0 .. 9: g", 2, faultOf("L0/"), faultOf("L0:"));
        });
    }

    private void parts() {
        e.of(PART, "then PARTS, none or more, numbered as they are told, each kind for itself:", () -> {
            AntLease x = Check.manor("L00");
            e.dueAll("none", 0, x.manor(), x.about(0), x.about(1));
            AntLease y = Check.manor("L00T3F10F20T4F31T5");
            e.dueRow("foods", new long[] {10, 20, 30, -1}, y.food(0, 1), y.food(1, 1), y.food(2, 1), y.food(3, 1));
            e.dueRow("things", new long[] {3, 4, 5, -1}, y.thing(0, 0), y.thing(1, 0), y.thing(2, 0), y.thing(3, 0));
            e.dueAll("beside F, T", 3, faultOf("L00E00"), faultOf("L00G00"), faultOf("L00S0"), faultOf("L00U0"));
        });
        e.of(PART, "Fgk a FOOD, ten times g (0 .. 9) GRAINS of it in THE LARDER,", () -> {
            for (int g = 0; g <= 9; g++) {
                e.due("larder by " + g, Check.manor("L00F" + g + "0").food(0, 1), 10 * g);
            }
            e.dueAll("beside 0 .. 9", 4, faultOf("L00F/0"), faultOf("L00F:0"));
        });
        e.of(PART, "of KIND k (0 PLAIN, 1 SWEET, 2 SALT, 3 HOARD); 4 at most", () -> {
            for (int k = 0; k <= 3; k++) {
                e.due("kind " + k, Check.manor("L00F9" + k).food(0, 0), k);
            }
            e.dueAll("beside 0 .. 3", 5, faultOf("L00F9/"), faultOf("L00F94"));
            e.due("four", Check.manor("L00F00F00F00F00").about(0), 4);
            e.due("the fifth", faultOf("L00F00F00F00F00F"), 15);
            e.due("the fifth behind a thing", faultOf("L00F00F00T0F00F00F00"), 17);
        });
        e.of(PART, "Tp a THING at PLACE p; 5 at most", () -> {
            for (int p = 0; p <= 9; p++) {
                e.due("place " + p, Check.manor("L00T" + p).thing(0, 0), p);
            }
            e.dueAll("beside 0 .. 9", 4, faultOf("L00T/"), faultOf("L00T:"));
            e.due("five", Check.manor("L00T0T0T0T0T0").about(1), 5);
            e.due("the sixth", faultOf("L00T0T0T0T0T0T"), 13);
            e.due("the sixth behind a food", faultOf("L00T0T0T0F00T0T0T0"), 16);
            e.due("four and five", Check.manor("L00F00F00F00F00T0T0T0T0T0").manor(), 45);
        });
    }

    /** Of all 256 bytes behind a beginning just these are no fault there. */
    private void onlyThese(String begin, String these) {
        for (int letter = 0; letter < 256; letter++) {
            AntLease x = new AntLease();
            Check.write(x, begin);
            x.write(letter);
            boolean fits = these.indexOf(letter) >= 0;
            e.due(begin + " and byte " + letter, x.fault() == begin.length() ? 1 : 0, fits ? 0 : 1);
        }
    }

    private void fault() {
        e.of(PART, "FAULT: the place of the first byte by which THE TEXT can be no MANOR, whatever came behind it"
                + " (its length set aside);", () -> {
            String figures = "0123456789";
            onlyThese("", "L");
            onlyThese("L", figures);
            onlyThese("L0", figures);
            onlyThese("L00", "FT");
            onlyThese("L00F", figures);
            onlyThese("L00F0", "0123");
            onlyThese("L00T", figures);
            onlyThese("L00F00F00F00F00", "T");
            onlyThese("L00T0T0T0T0T0", "F");
            onlyThese("L00F00F00F00F00T0T0T0T0T0", "");
            AntLease x = new AntLease();
            Check.write(x, "L00XF00");
            e.due("the first", x.fault(), 3);
            for (int length = 8; length <= 48; length++) {
                x.write(length % 2 == 0 ? 'X' : 'F');
                e.due("whatever came behind it, up to " + length, x.fault(), 3);
            }
        });
        e.of(PART, "its length, if it is only not at its end;", () -> {
            String[] begun = {"", "L", "L9", "L99F", "L99F9", "L99T", "L99F93F", "L99F93F9", "L99T9T",
                "L00F00F00F00F00T0T0T0T0T"};
            for (String text : begun) {
                e.due("'" + text + "'", faultOf(text), text.length());
            }
        });
        e.of(PART, "NONE: none.", () -> {
            String[] whole = {"L00", "L99", "L00F00", "L99F93", "L00T0", "L99T9", "L00F00F00F00F00T0T0T0T0T0"};
            for (String text : whole) {
                e.due("'" + text + "'", faultOf(text), AntLease.NONE);
            }
        });
    }

    private void beginnings() {
        e.of(PART, "At first there are no FOODS, no THINGS, THE SKIRTING is at PLACE 0, GOODWILL is 0.", () -> {
            AntLease x = new AntLease();
            e.dueAll("about(0 .. 3)", 0, x.about(0), x.about(1), x.about(2), x.about(3));
            e.due("ants are at place 0 alone", x.about(9), 1);
        });
        e.of(PART, "When THE MANOR is made anew, nothing lies on THE FLOOR, nothing was PUT UP, there is no POWDER,"
                + " no PIN, THE QUARTER is 0.", () -> {
            AntLease x = States.busy();
            e.dueRow("before", new long[] {1, 9, 1 << 7, 2, 1}, x.food(0, 2), x.food(1, 3), x.about(8), x.about(5),
                    x.about(4));
            Check.write(x, "0F90F91");
            x.manor();
            e.dueAll("floor", 0, x.food(0, 2), x.food(1, 2));
            e.dueAll("put up", 0, x.food(0, 3), x.food(1, 3));
            e.dueAll("powder, pins, quarter", 0, x.about(8), x.about(5), x.about(4));
            e.dueAll("of the foods and things that were", -1, x.food(2, 0), x.thing(0, 0));
        });
    }

    private void doings() {
        e.of(PART, "PUT UP: n GRAINS (1 .. 9) of a FOOD more are in THE LARDER (999 at most).", () -> {
            AntLease x = Check.manor("L00F00F90");
            int grains = 0;
            for (int n = 1; n <= 9; n++) {
                grains += n;
                e.due("put " + n, x.put(0, n), grains);
            }
            e.dueAll("0 and 10", AntLease.BAD, x.put(0, 0), x.put(0, 10));
            States.putUp(x, 1, 908);
            e.dueRow("998, two more, one more, one more", new long[] {998, -4, 999, -4}, x.food(1, 1), x.put(1, 2),
                    x.put(1, 1), x.put(1, 1));
        });
        e.of(PART, "EATEN: n GRAINS (1 .. 9) of it that are in THE LARDER are gone.", () -> {
            AntLease x = Check.manor("L00F50");
            int grains = 50;
            for (int n = 1; n <= 9; n++) {
                grains -= n;
                e.due("eat " + n, x.eat(0, n), grains);
            }
            e.dueAll("0 and 10", AntLease.BAD, x.eat(0, 0), x.eat(0, 10));
            x.leave(0, 2);
            e.dueRow("three, four of three, three of three, one of none", new long[] {3, -3, 0, -3}, x.food(0, 1),
                    x.eat(0, 4), x.eat(0, 3), x.eat(0, 1));
            e.due("what lies on the floor is not eaten", x.food(0, 2), 2);
        });
        e.of(PART, "LEFT: n GRAINS (1 .. 9; of a HOARD ten times n) go from THE LARDER to THE FLOOR.", () -> {
            for (int n = 1; n <= 9; n++) {
                AntLease x = Check.manor("L00F90F91F92F93");
                e.dueRow("on the floor by " + n, new long[] {n, n, n, 10 * n}, x.leave(0, n), x.leave(1, n),
                        x.leave(2, n), x.leave(3, n));
                e.dueRow("in the larder by " + n, new long[] {90 - n, 90 - n, 90 - n, 90 - 10 * n}, x.food(0, 1),
                        x.food(1, 1), x.food(2, 1), x.food(3, 1));
            }
            AntLease y = Check.manor("L00F90F93");
            e.dueAll("0 and 10", AntLease.BAD, y.leave(0, 0), y.leave(0, 10), y.leave(1, 0), y.leave(1, 10));
        });
        e.of(PART, "MOVED: a THING is at another PLACE.", () -> {
            AntLease x = Check.manor("L00T5T5");
            e.dueRow("there, right, left", new long[] {-3, 1, 2}, x.move(0, 5), x.move(0, 6), x.move(0, 4));
            e.dueRow("places", new long[] {4, 5}, x.thing(0, 0), x.thing(1, 0));
            e.due("where another is already", x.move(0, 5), 1);
        });
        e.of(PART, "SPRINKLED: there is POWDER at a PLACE where there is none.", () -> {
            AntLease x = new AntLease();
            e.dueRow("once, twice, elsewhere", new long[] {1, -3, 2}, x.sprinkle(4), x.sprinkle(4), x.sprinkle(5));
            x.undo();
            x.undo();
            e.due("there is none again", x.sprinkle(4), 1);
        });
    }

    private void worthAndDue() {
        e.of(PART, "WORTH of a FOOD on THE FLOOR: PLAIN, HOARD as many as GRAINS; SWEET twice that; SALT half (cut).", () -> {
            AntLease x = Check.manor("L00F90F91F92F93");
            for (int n = 0; n <= 9; n++) {
                e.dueRow("worth of " + n, new long[] {n, 2 * n, n / 2, 10 * n}, x.food(0, 4), x.food(1, 4),
                        x.food(2, 4),
                        x.food(3, 4));
                for (int food = 0; food < 4; food++) {
                    x.leave(food, 1);
                }
            }
            AntLease y = Check.manor("L00F92F92");
            States.putUp(y, 0, 10);
            y.leave(0, 1);
            y.leave(1, 1);
            e.due("two halves of two foods are none", y.about(7), 1);
        });
        e.of(PART, "DUE is a tenth (cut) of all GRAINS that were PUT UP in THE QUARTER.", () -> {
            AntLease x = Check.manor("L00F90F91F92F93");
            long[] due = new long[41];
            for (int grains = 0; grains <= 40; grains++) {
                due[grains] = x.about(6);
                e.due("due of " + grains, due[grains], grains / 10);
                x.put(grains % 4, 1);
            }
            x.eat(0, 9);
            x.leave(1, 9);
            e.due("eaten and left were put up all the same", x.about(6), 4);
            x.quarter();
            States.putUp(x, 0, 9);
            e.due("nine in the next quarter", x.about(6), 0);
            x.put(3, 1);
            e.due("ten in the next quarter", x.about(6), 1);
        });
        e.of(PART, "SHORT is by how much WORTH of all FOODS together is less than DUE (0: it is not).", () -> {
            AntLease x = Check.manor("L00F90F91F92F93");
            States.putUp(x, 0, 50);
            e.due("all", x.about(7), 5);
            x.leave(0, 2);
            x.leave(1, 1);
            e.due("one", x.about(7), 1);
            x.leave(2, 1);
            e.due("half a one is none", x.about(7), 1);
            x.leave(2, 1);
            e.due("as much as due", x.about(7), 0);
            x.leave(3, 9);
            e.due("more than due", x.about(7), 0);
        });
    }

    private void quarters() {
        e.of(PART, "A QUARTER: if it is SHORT, GOODWILL is 1 less, and there are so many PINS more as it is SHORT;",
                () -> {
            AntLease x = Check.manor("L05F90");
            States.putUp(x, 0, 19);
            e.dueRow("short by one", new long[] {4, 1}, x.quarter(), x.about(5));
            States.putUp(x, 0, 70);
            e.dueRow("short by seven", new long[] {3, 8}, x.quarter(), x.about(5));
        });
        e.of(PART, "else GOODWILL is 1 more, and there are no PINS;", () -> {
            AntLease x = Check.manor("L05F90");
            States.putUp(x, 0, 10);
            e.dueRow("short by one", new long[] {4, 1}, x.quarter(), x.about(5));
            States.putUp(x, 0, 10);
            x.leave(0, 1);
            e.dueRow("just not short", new long[] {5, 0}, x.quarter(), x.about(5));
            States.putUp(x, 0, 9);
            e.dueRow("nothing is due", new long[] {6, 0}, x.quarter(), x.about(5));
        });
        e.of(PART, "then GOODWILL is less by 1 for each PLACE with POWDER;", () -> {
            for (int places = 0; places <= 10; places++) {
                AntLease x = Check.manor("L08F90");
                States.sprinkleAll(x, places);
                e.due("kept, " + places + " places", x.quarter(), Math.max(0, 9 - places));
                AntLease y = Check.manor("L08F90");
                States.putUp(y, 0, 10);
                States.sprinkleAll(y, places);
                e.due("short, " + places + " places", y.quarter(), Math.max(0, 7 - places));
            }
        });
        e.of(PART, "GOODWILL is 0 .. 9 (what goes beyond is cut off when all is done).", () -> {
            for (int places = 0; places <= 10; places++) {
                AntLease x = Check.manor("L09");
                States.sprinkleAll(x, places);
                e.due("nine, one more, less " + places, x.quarter(), Math.min(9, 10 - places));
                AntLease y = Check.manor("L00");
                States.sprinkleAll(y, places);
                e.due("none, one more, less " + places, y.quarter(), places == 0 ? 1 : 0);
            }
            AntLease z = Check.manor("L01F90");
            for (int i = 0; i < 3; i++) {
                States.putUp(z, 0, 10);
                e.due("one, then one less each time", z.quarter(), 0);
            }
            e.due("nothing of what was cut off is owed", z.quarter(), 1);
        });
        e.of(PART, "Nothing lies on THE FLOOR any more, nothing was PUT UP, there is no POWDER; THE QUARTER is one more.", () -> {
            AntLease x = Check.manor("L05F90F91F92F93T3");
            for (int food = 0; food < 4; food++) {
                x.put(food, 9);
                x.leave(food, 2);
            }
            States.sprinkleAll(x, 10);
            x.quarter();
            for (int food = 0; food < 4; food++) {
                e.dueAll("floor, put up, worth of " + food, 0, x.food(food, 2), x.food(food, 3), x.food(food, 4));
                e.due("what lay there is gone, of " + food, x.food(food, 1), food == 3 ? 79 : 97);
            }
            e.dueAll("due, short, powder", 0, x.about(6), x.about(7), x.about(8));
            for (int quarter = 1; quarter <= 100; quarter++) {
                e.due("the quarter", x.about(4), quarter);
                x.quarter();
            }
        });
    }

    /** By places one by one, as the document tells it. */
    static int antsGo(int skirting, int goodwill, int powder) {
        int bits = 0;
        for (int place = 0; place <= 9; place++) {
            boolean goes = Math.abs(place - skirting) <= goodwill;
            for (int p = Math.min(place, skirting); p <= Math.max(place, skirting); p++) {
                goes = goes && (powder >> p & 1) == 0;
            }
            bits |= goes ? 1 << place : 0;
        }
        return bits;
    }

    private void ants() {
        e.of(PART, "ANTS go from THE SKIRTING left and right as many PLACES as GOODWILL, as long as there is a PLACE"
                + " and no POWDER on it", () -> {
            for (int line = 0; line < 100; line++) {
                AntLease x = Check.manor("L" + line / 10 + line % 10);
                e.due("from and by " + line, x.about(9), antsGo(line / 10, line % 10, 0));
                for (int place = 0; place <= 9; place++) {
                    x.sprinkle(place);
                    e.due(line + ", powder at " + place, x.about(9), antsGo(line / 10, line % 10, 1 << place));
                    x.undo();
                }
            }
            AntLease y = Check.manor("L53");
            e.dueRow("beside the skirting on both sides", new long[] {1, 2, 1 << 5}, y.sprinkle(4), y.sprinkle(6),
                    y.about(9));
        });
        e.of(PART, "(none at all, if there is some at THE SKIRTING):", () -> {
            for (int place = 0; place <= 9; place++) {
                AntLease x = Check.manor("L" + place + "9T" + place);
                x.sprinkle(place);
                e.dueAll("ants, known", 0, x.about(9), x.about(10));
            }
        });
        e.of(PART, "a THING is KNOWN, if it is at a PLACE to which they go (THE SKIRTING as well).", () -> {
            AntLease x = Check.manor("L52T2T3T5T7T8");
            e.due("the last and the first beyond, on both sides", x.about(10), 0b01110);
            AntLease y = Check.manor("L50T5T4T6");
            e.due("at the skirting, without goodwill", y.about(10), 0b001);
            y.sprinkle(5);
            e.due("powder there", y.about(10), 0);
        });
    }

    private void acts() {
        e.of(PART, "ACTS (QUARTERS, PUT UP, EATEN, LEFT, MOVED, SPRINKLED) are a row (14 at most; when it is full,"
                + " the first one is forgotten);", () -> {
            AntLease x = Check.manor("L05F90T5");
            x.quarter();
            e.due("a quarter", x.about(11), 1);
            x.put(0, 1);
            e.due("put up", x.about(11), 2);
            x.eat(0, 1);
            e.due("eaten", x.about(11), 3);
            x.leave(0, 1);
            e.due("left", x.about(11), 4);
            x.move(0, 6);
            e.due("moved", x.about(11), 5);
            x.sprinkle(0);
            e.due("sprinkled", x.about(11), 6);
            for (int acts = 7; acts <= 44; acts++) {
                x.put(0, 1);
                e.due("acts", x.about(11), Math.min(14, acts));
            }
            e.due("grains", x.food(0, 1), 127);
            for (int left = 13; left >= 0; left--) {
                e.dueRow("undone", new long[] {left, 113 + left}, x.undo(), x.food(0, 1));
            }
            e.dueRow("the rest is forgotten", new long[] {-3, 113, 1 << 0}, x.undo(), x.food(0, 1), x.about(8));
            AntLease none = Check.manor("L00F10");
            for (int i = 0; i < 9; i++) {
                none.eat(0, 1);
            }
            for (int i = 0; i < 5; i++) {
                none.sprinkle(i);
            }
            e.dueRow("the fifteenth answers 0", new long[] {14, 0, 14}, none.about(11), none.eat(0, 1), none.about(11));
            for (int i = 0; i < 6; i++) {
                none.undo();
            }
            e.dueRow("and is an act, which was undone", new long[] {8, 1, 0}, none.about(11), none.food(0, 1),
                    none.about(8));
            for (int i = 0; i < 8; i++) {
                none.undo();
            }
            e.dueRow("the first one is forgotten by it", new long[] {-3, 9}, none.undo(), none.food(0, 1));
        });
        e.of(PART, "the last one can be undone.", () -> {
            AntLease x = Check.manor("L05F90T5");
            x.move(0, 1);
            x.move(0, 2);
            e.dueRow("the last", new long[] {1, 1}, x.undo(), x.thing(0, 0));
            x.move(0, 3);
            e.dueRow("the one behind it", new long[] {1, 1}, x.undo(), x.thing(0, 0));
            e.dueRow("the first", new long[] {0, 5, -3}, x.undo(), x.thing(0, 0), x.undo());
            for (int i = 0; i < 20; i++) {
                x.put(0, 1);
            }
            for (int i = 0; i < 6; i++) {
                x.undo();
            }
            for (int i = 0; i < 6; i++) {
                x.eat(0, 1);
            }
            e.dueRow("full again, none forgotten by it", new long[] {14, 98}, x.about(11), x.food(0, 1));
            for (int left = 13; left >= 0; left--) {
                int grains = left >= 8 ? 104 - (left - 8) : 96 + left;
                e.dueRow("undone", new long[] {left, grains}, x.undo(), x.food(0, 1));
            }
            e.due("none is left", x.undo(), AntLease.LATE);
        });
    }
}
