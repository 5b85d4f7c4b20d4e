/** "Terms", part 3: said, lines, rests, stray, years, slots. */
final class Part3Edges {
    private static final String PART = "Part 3";
    private static final int NONE = AntLease.NONE;

    private final Edges e;

    private Part3Edges(Edges e) {
        this.e = e;
    }

    static void test(Edges e) {
        Part3Edges part = new Part3Edges(e);
        part.said();
        part.lines();
        part.rests();
        part.stray();
        part.yearsAndSeed();
        part.yearsByChance();
        part.slots();
    }

    private void said() {
        e.of(PART, "SAID: that ANTS of an unknown SKIRTING and GOODWILL, POWDER being as it is now, KNEW a THING at a"
                + " PLACE (1), or not (0): 6 such at most, none at first.", () -> {
            AntLease x = new AntLease();
            e.dueRow("none at first", new long[] {0, 0, 100}, x.about(12), x.unsay(), x.lines(0));
            for (int i = 1; i <= 6; i++) {
                e.due("said " + i, x.say(i, i % 2), i);
            }
            e.dueRow("a seventh", new long[] {-4, -4, 6}, x.say(0, 0), x.say(9, 1), x.about(12));
            e.dueRow("beside 0, 1", new long[] {6, -2, -2, 1, 2}, x.unsay(), x.say(0, -1), x.say(0, 2), x.say(0, 0),
                    x.say(0, 1));
            AntLease y = Check.manor("L59");
            y.say(4, 1);
            e.dueRow("whatever skirting and goodwill are now", new long[] {75, 4}, y.lines(0), y.lines(1));
            y.sprinkle(4);
            e.dueRow("powder as it is now", new long[] {0, NONE}, y.lines(0), y.lines(1));
            y.undo();
            e.dueRow("and not any more", new long[] {75, 4}, y.lines(0), y.lines(1));
        });
    }

    private static boolean isSo(int line, int powder, int[][] said) {
        int go = Part1Edges.antsGo(line / 10, line % 10, powder);
        for (int[] one : said) {
            if ((go >> one[0] & 1) != one[1]) {
                return false;
            }
        }
        return true;
    }

    private void linesOf(int powder, int[]... said) {
        AntLease x = new AntLease();
        for (int place = 0; place <= 9; place++) {
            if ((powder >> place & 1) != 0) {
                x.sprinkle(place);
            }
        }
        int count = 0;
        int first = NONE;
        for (int[] one : said) {
            x.say(one[0], one[1]);
        }
        for (int line = 99; line >= 0; line--) {
            if (isSo(line, powder, said)) {
                count++;
                first = line;
            }
        }
        e.dueRow("lines by powder " + powder, new long[] {count, first}, x.lines(0), x.lines(1));
    }

    private void lines() {
        e.of(PART, "LINES: SKIRTINGS and GOODWILLS (0 .. 9 each) by which all that is SAID is so: how many (100 there are);"
                + " the first one (10 times SKIRTING and GOODWILL); NONE.", () -> {
            AntLease x = new AntLease();
            e.dueRow("nothing is said", new long[] {100, 0}, x.lines(0), x.lines(1));
            x.say(9, 1);
            x.say(0, 1);
            // goodwill must be 9, 8, .. 5, 5, .. 9 at least
            e.dueRow("both ends", new long[] {30, 9}, x.lines(0), x.lines(1));
            x.say(8, 0);
            e.dueRow("both ends, but not between", new long[] {0, NONE}, x.lines(0), x.lines(1));
            AntLease last = new AntLease();
            States.sprinkleAll(last, 9);
            last.say(9, 1);
            e.dueRow("the last skirting, by every goodwill", new long[] {10, 90}, last.lines(0), last.lines(1));
            for (int place = 0; place <= 9; place++) {
                linesOf(0, new int[] {place, 1});
                linesOf(0, new int[] {place, 0});
                linesOf(1 << place, new int[] {place, 0});
                linesOf(1 << place, new int[] {place, 1});
                linesOf(1 << place, new int[] {9 - place, 1}, new int[] {5, 0});
                linesOf(1 << place, new int[] {0, 0}, new int[] {1, 1}, new int[] {2, 1}, new int[] {3, 1},
                        new int[] {4, 1}, new int[] {8, 0});
            }
            linesOf(0b1111111111, new int[] {3, 0});
        });
    }

    private void restsOf(String when, AntLease x, long count, long first) {
        e.dueRow(when, new long[] {count, first}, x.rests(0, 1, 0), x.rests(0, 1, 1));
    }

    /** By food 2, which has no part in the rests, so much is due. */
    private static AntLease owing(String text, int due) {
        AntLease x = Check.manor(text);
        States.putUp(x, 2, 10 * due);
        return x;
    }

    private void rests() {
        e.of(PART, "RESTS of two FOODS: for each somebody LEAVES 0, 1 or 2 GRAINS (of a HOARD 0, ten or twenty) of it now,"
                + " if there are so many (else 0):", () -> {
            AntLease plain = owing("L00F10F00F00", 2);
            States.eatUp(plain, 0, 8);
            restsOf("two of two", plain, 1, 20);
            plain.eat(0, 1);
            restsOf("two of one", plain, 1, 0);
            AntLease one = owing("L00F00F10F00", 1);
            States.eatUp(one, 1, 9);
            restsOf("one of one", one, 1, 1);
            one.eat(1, 1);
            restsOf("one of none", one, 1, 0);
            AntLease twenty = owing("L00F23F00F00", 20);
            restsOf("twenty of twenty", twenty, 1, 20);
            twenty.eat(0, 1);
            restsOf("twenty of nineteen", twenty, 1, 0);
            AntLease ten = owing("L00F13F00F00", 10);
            restsOf("ten of ten", ten, 1, 10);
            ten.eat(0, 1);
            restsOf("ten of nine", ten, 1, 0);
            AntLease more = owing("L00F90F90F00", 5);
            restsOf("never three", more, 1, 0);
        });
        e.of(PART, "each has 5, if it is not SHORT then, less what was chosen (0 .. 2):", () -> {
            restsOf("nothing is due", owing("L00F90F90F00", 0), 1, 0);
            restsOf("ten grains are one choice", owing("L00F03F93F00", 9), 1, 1);
            restsOf("two are worth it", owing("L00F00F91F00", 4), 1, 2);
            AntLease none = owing("L00F00F00F00", 0);
            restsOf("what can't be left is chosen all the same", none, 1, 0);
            AntLease lies = owing("L00F90F90F00", 3);
            lies.leave(0, 2);
            restsOf("what lies there counts", lies, 2, 1);
            lies.leave(1, 1);
            restsOf("not short before", lies, 1, 0);
        });
        e.of(PART, "pairs in which neither has more by another choice alone: how many; the first one"
                + " (10 times the one and the other); NONE.", () -> {
            restsOf("one is due", owing("L00F90F90F00", 1), 2, 1);
            restsOf("two are due", owing("L00F90F90F00", 2), 3, 2);
            restsOf("three are due", owing("L00F90F90F00", 3), 3, 0);
            restsOf("four are due", owing("L00F90F90F00", 4), 2, 0);
            restsOf("five are due", owing("L00F90F90F00", 5), 1, 0);
            AntLease x = owing("L00F91F90F00", 3);
            e.dueRow("the one and the other", new long[] {2, 11, 2, 2}, x.rests(0, 1, 0), x.rests(0, 1, 1),
                    x.rests(1, 0, 0), x.rests(1, 0, 1));
            AntLease y = owing("L00F90F00F00", 1);
            e.dueRow("turned round", new long[] {10, 1}, y.rests(0, 1, 1), y.rests(1, 0, 1));
        });
    }

    private void strayOf(String when, AntLease x, int m, int tenths, long above, long below) {
        e.dueRow(when, new long[] {above, below}, x.stray(m, tenths, true), x.stray(m, tenths, false));
    }

    private void stray() {
        e.of(PART, "STRAY: each THING is at the PLACE right of its own (at 9: there) by x tenths (0 .. 10), by itself:", () -> {
            AntLease out = Check.manor("L52T7");
            AntLease in = Check.manor("L52T2");
            for (int x = 0; x <= 10; x++) {
                int d = x % 10 == 0 ? 10 : x == 5 ? 5 : x % 2 == 0 ? 2 : 1;
                strayOf("in by " + x, in, 1, x, x / d, 10 / d);
                strayOf("out by " + x, out, 1, x, (10 - x) / d, 10 / d);
            }
            e.dueAll("-1 and 11", AntLease.BAD, in.stray(1, -1, true), in.stray(1, 11, true));
            for (int x = 0; x <= 10; x += 5) {
                strayOf("at 9 it stays, by " + x, Check.manor("L90T9"), 1, x, 1, 1);
            }
            strayOf("from 8 to 9", Check.manor("L90T8"), 1, 10, 1, 1);
            strayOf("from 8 by 3", Check.manor("L90T8"), 1, 3, 3, 10);
            long[] known = {0, 1, 0, 0};
            for (int place = 3; place <= 6; place++) {
                AntLease x = Check.manor("L50T" + place);
                strayOf("one place and to the right alone, from " + place, x, 1, 10, known[place - 3], 1);
            }
            strayOf("two at one place, each by itself", Check.manor("L52T7T7"), 2, 5, 1, 4);
            strayOf("one of them", Check.manor("L52T7T7"), 1, 5, 3, 4);
        });
        e.of(PART, "that m (0 .. 5) or more are KNOWN: a FRACTION.", () -> {
            AntLease five = Check.manor("L52T7T7T7T7T7");
            int[] above = {1, 31, 13, 1, 3, 1};
            int[] below = {1, 32, 16, 2, 16, 32};
            for (int m = 0; m <= 5; m++) {
                strayOf(m + " of five", five, m, 5, above[m], below[m]);
            }
            e.dueAll("-1 and 6", AntLease.BAD, five.stray(-1, 5, true), five.stray(6, 5, true));
            strayOf("none of no things", new AntLease(), 0, 5, 1, 1);
            strayOf("one of no things", new AntLease(), 1, 5, 0, 1);
            strayOf("all of them", Check.manor("L52T5T5"), 2, 5, 1, 1);
            strayOf("more than there are", Check.manor("L52T5T5"), 3, 5, 0, 1);
            strayOf("the largest", five, 5, 7, 243, 100000);
            five.sprinkle(5);
            strayOf("none, if ants go nowhere", five, 0, 5, 1, 1);
            strayOf("one, if ants go nowhere", five, 1, 5, 0, 1);
        });
    }

    private void yearsAndSeed() {
        e.of(PART, "YEARS by THE SEED: m times (1 .. 30) x (THE SEED, a long; 0 at first) becomes x times"
                + " 6364136223846793005 and 1442695040888963407 (64 bits, wrapping);", () -> {
            AntLease x = new AntLease();
            e.dueAll("0 and 31", AntLease.BAD, x.years(0), x.years(31));
            e.due("0 at first", x.seed(0), 0);
            long[] seeds = {0, 1, -1, Long.MAX_VALUE, Long.MIN_VALUE, Seeds.before(0), Seeds.before(Long.MIN_VALUE),
                Seeds.before(Long.MAX_VALUE), Seeds.before(-1)};
            for (long seed : seeds) {
                for (int m = 1; m <= 30; m += m == 2 ? 27 : 1) {
                    x.seed(seed);
                    x.years(m);
                    long want = seed;
                    for (int i = 0; i < m; i++) {
                        want = Seeds.after(want);
                    }
                    e.due(seed + " after " + m, x.seed(0), want);
                }
            }
        });
        e.of(PART, "26 .. 31 A QUARTER: GOODWILL, each time, together.", () -> {
            AntLease x = Check.manor("L53F00");
            for (int chance = 24; chance <= 31; chance++) {
                e.due("by " + chance, Seeds.years(x, chance), chance < 26 ? 3 : 4);
            }
            e.due("behind 31", Seeds.years(x, 0), 3);
            e.due("each time", Seeds.years(x, 26, 31, 0), 4 + 5 + 5);
            e.due("nine at most", Seeds.years(Check.manor("L59"), 26, 31), 9 + 9);
            AntLease bare = Check.manor("L00");
            e.due("none at least", Seeds.years(bare, 16, 17, 26), 0);
            for (int m = 1; m <= 30; m++) {
                bare.seed(m);
                e.due(m + " years", bare.years(m), Seeds.yearsWithoutFoods(m, 0, m));
            }
        });
        e.of(PART, "(Nothing changes but THE SEED.)", () -> {
            for (int chance = 0; chance < 32; chance += 5) {
                long seed = Seeds.leadingTo(chance, 31);
                e.dueUnchanged("years by " + chance, States::busy, 12345, x -> {
                    long was = x.seed(seed);
                    x.years(30);
                    x.seed(was);
                    return was;
                });
            }
        });
    }

    private void yearsByChance() {
        e.of(PART, "what is left of its upper 31 bits by 32: 0 .. 7 that by 2 (down) is a FOOD of which 9 are PUT UP,", () -> {
            AntLease bits = Check.manor("L53");
            long[] fills = {0, -1L << 38, (1L << 33) - 1, -1L << 38 | (1L << 33) - 1};
            for (long chance = 0; chance < 32; chance++) {
                for (long fill : fills) {
                    bits.seed(Seeds.before(chance << 33 | fill));
                    e.due("bits of " + chance, bits.years(1), chance < 26 ? 3 : 4);
                }
            }
            String[] texts = {"L53F00", "L53F00F00", "L53F00F00F00", "L53F00F00F00F00"};
            for (int foods = 1; foods <= 4; foods++) {
                AntLease x = Check.manor(texts[foods - 1]);
                for (int chance = 0; chance < 8; chance++) {
                    int then = chance / 2 < foods ? 2 : 4;
                    e.due("twice nine by " + chance, Seeds.years(x, chance, chance, 26), 3 + 3 + then);
                    e.due("once nine by " + chance, Seeds.years(x, chance, 26), 3 + 4);
                }
                x.put(0, 1);
                e.dueRow("nine and one, once", new long[] {3 + 2, 4}, Seeds.years(x, 0, 26), Seeds.years(x, 31));
            }
        });
        e.of(PART, "8 .. 15 that less 8, by 2 (down) is a FOOD of which 1 (HOARD ten) is LEFT,", () -> {
            String[] texts = {"L53F90F02F02F02", "L53F02F91F02F02", "L53F02F02F93F02", "L53F02F02F02F90"};
            for (int food = 0; food < 4; food++) {
                AntLease x = Check.manor(texts[food]);
                States.putUp(x, 0, 10);
                for (int chance = 7; chance <= 16; chance++) {
                    boolean kept = chance >= 8 && chance < 16 && (chance - 8) / 2 == food;
                    int powder = chance == 16 ? 1 : 0;
                    e.due("one by " + chance, Seeds.years(x, chance, 26), 3 + (kept ? 4 : 2) - powder);
                }
            }
            AntLease hoard = Check.manor("L53F03F00");
            States.putUp(hoard, 1, 100);
            States.putUp(hoard, 0, 10);
            e.due("ten of a hoard, eleven are due", Seeds.years(hoard, 8, 26), 3 + 2);
            e.due("ten of a hoard and a plain one", Seeds.years(hoard, 8, 10, 26), 3 + 3 + 4);
        });
        e.of(PART, "16 .. 25 POWDER is SPRINKLED at that less 16 PLACE, each if it can be;", () -> {
            for (int place = 0; place <= 9; place++) {
                AntLease x = Check.manor("L53");
                x.sprinkle(place);
                for (int chance = 15; chance <= 26; chance++) {
                    int want = chance == 15 || chance - 16 == place ? 3 + 3 : chance == 26 ? 3 + 4 : 3 + 2;
                    e.due("powder at " + place + ", by " + chance, Seeds.years(x, chance, 26), want);
                }
            }
            AntLease full = States.fullLarder();
            full.quarter();
            full.eat(0, 8);
            e.due("no room for nine", Seeds.years(full, 0, 0, 26), 1 + 1 + 2);
            full.eat(0, 1);
            e.due("room for nine once", Seeds.years(full, 0, 0, 26), 1 + 1 + 2);
            full.eat(0, 9);
            e.due("room for nine twice", Seeds.years(full, 0, 0, 26), 1 + 1 + 0);
            AntLease none = Check.manor("L53F13F00F90");
            States.putUp(none, 2, 10);
            e.due("a ten of ten", Seeds.years(none, 8, 26), 3 + 4);
            none.eat(0, 1);
            e.due("no ten of nine", Seeds.years(none, 8, 26), 3 + 2);
            e.dueRow("none of none, one of a hundred", new long[] {3 + 2, 3 + 4}, Seeds.years(none, 10, 26),
                    Seeds.years(none, 12, 26));
            e.due("no such food", Seeds.years(none, 14, 26), 3 + 2);
        });
    }

    private void slots() {
        e.of(PART, "SLOTS 0 .. 1 keep THE LARDER, THE FLOOR, what was PUT UP, where THINGS are, POWDER, PINS, GOODWILL,"
                + " THE QUARTER (no ACTS when one goes on).", () -> {
            for (int slot = 0; slot <= 1; slot++) {
                AntLease x = States.busy();
                e.due("keep", x.keep(slot), 1);
                x.quarter();
                x.put(0, 9);
                x.eat(1, 9);
                x.leave(3, 1);
                x.move(0, 0);
                x.sprinkle(2);
                States.putUp(x, 2, 20);
                x.quarter();
                e.due("again", x.again(slot), 1);
                e.dueRow("larder", new long[] {76, 49, 32, 99}, x.food(0, 1), x.food(1, 1), x.food(2, 1), x.food(3, 1));
                e.dueRow("floor", new long[] {1, 0, 0, 0}, x.food(0, 2), x.food(1, 2), x.food(2, 2), x.food(3, 2));
                e.dueRow("put up", new long[] {0, 9, 5, 9}, x.food(0, 3), x.food(1, 3), x.food(2, 3), x.food(3, 3));
                e.dueRow("things", new long[] {5, 3, 9, 0, 6}, x.thing(0, 0), x.thing(1, 0), x.thing(2, 0),
                        x.thing(3, 0), x.thing(4, 0));
                e.dueRow("powder, pins, goodwill, quarter", new long[] {1 << 7, 2, 2, 1}, x.about(8), x.about(5),
                        x.about(3), x.about(4));
                e.dueRow("no acts", new long[] {0, -3}, x.about(11), x.undo());
            }
            AntLease first = Check.manor("L44F90");
            first.keep(0);
            first.put(0, 9);
            e.dueRow("no acts, in the first quarter too", new long[] {0, 0, -3, 90}, first.again(0), first.about(11),
                    first.undo(), first.food(0, 1));
            AntLease y = new AntLease();
            e.dueAll("-1 and 2", AntLease.UNKNOWN, y.keep(-1), y.keep(2), y.again(-1), y.again(2));
        });
    }
}
