/** Promises 23 to 26: rests, stray, seed, years. */
public final class ChancesTest {
    private static final Check CHECK = new Check();

    public static void main(String[] args) {
        rests();
        restsRefusals();
        stray();
        strayRefusals();
        seed();
        years();
        yearsPutUp();
        yearsLeft();
        yearsSprinkled();
        CHECK.end();
    }

    private static void restsOf(String what, AntLease x, int one, int other, int count, int first) {
        CHECK.due(what + ": how many", x.rests(one, other, 0), count);
        CHECK.due(what + ": the first", x.rests(one, other, 1), first);
    }

    private static AntLease owing(String text, int nines) {
        AntLease x = Check.manor(text);
        for (int i = 0; i < nines; i++) {
            x.put(0, 9);
        }
        return x;
    }

    private static void rests() {
        restsOf("nothing due", owing("L00F90F90", 0), 0, 1, 1, 0);
        restsOf("one is due", owing("L00F90F90", 2), 0, 1, 2, 1);
        restsOf("two are due", owing("L00F90F90", 3), 0, 1, 3, 2);
        restsOf("three are due", owing("L00F90F90", 4), 0, 1, 3, 0);
        restsOf("five are due", owing("L00F90F90", 6), 0, 1, 1, 0);
        restsOf("plain and sweet", owing("L00F90F91", 4), 0, 1, 2, 2);
        restsOf("sweet and plain", owing("L00F90F91", 4), 1, 0, 2, 11);
        restsOf("plain and salt", owing("L00F90F92", 2), 0, 1, 2, 2);
        restsOf("plain and hoard", owing("L00F90F93", 12), 0, 1, 1, 1);
        restsOf("a hoard of twenty", owing("L00F90F93", 13), 0, 1, 2, 2);
        restsOf("a third food doesn't matter", owing("L00F90F90F91", 2), 1, 0, 2, 1);
        AntLease few = owing("L00F90F03", 2);
        restsOf("no hoard to leave", few, 0, 1, 1, 10);
        few.put(1, 9);
        few.put(1, 2);
        restsOf("one ten of it, two are due", few, 0, 1, 2, 1);
        AntLease lies = owing("L00F90F90", 4);
        lies.leave(1, 2);
        restsOf("what lies counts", lies, 0, 1, 2, 1);
        CHECK.dueAbout("nothing is changed", lies, 2, 0, 0, 0, 0, 0, 3, 1, 0, 1, 0, 5, 0, 9);
        CHECK.due("nor in the larder", lies.food(0, 1), 126);
    }

    private static void restsRefusals() {
        AntLease x = owing("L00F90F90", 2);
        CHECK.dueAll("no such food", AntLease.UNKNOWN, x.rests(0, 2, 0), x.rests(2, 0, 0), x.rests(-1, 0, 0),
                x.rests(0, -1, 0), x.rests(2, 2, 0), x.rests(-1, -1, 5), x.rests(Integer.MAX_VALUE, 0, 0));
        CHECK.dueAll("both are one", AntLease.BAD, x.rests(0, 0, 0), x.rests(1, 1, 1), x.rests(1, 1, 2));
        CHECK.dueAll("rests what", AntLease.BAD, x.rests(0, 1, -1), x.rests(0, 1, 2), x.rests(1, 0, Integer.MAX_VALUE));
    }

    private static void strayOf(String what, AntLease x, int m, int tenths, int upper, int lower) {
        CHECK.due(what + ": above", x.stray(m, tenths, true), upper);
        CHECK.due(what + ": below", x.stray(m, tenths, false), lower);
    }

    private static void stray() {
        strayOf("no things, none asked", new AntLease(), 0, 5, 1, 1);
        strayOf("no things, one asked", new AntLease(), 1, 5, 0, 1);
        AntLease edge = Check.manor("L42T6");
        strayOf("out of reach by three tenths", edge, 1, 3, 7, 10);
        strayOf("not at all", edge, 1, 0, 1, 1);
        strayOf("surely", edge, 1, 10, 0, 1);
        strayOf("one thing, two asked", edge, 2, 3, 0, 1);
        AntLease into = Check.manor("L42T1");
        strayOf("into reach by four tenths", into, 1, 4, 2, 5);
        strayOf("one place alone", Check.manor("L42T0"), 1, 10, 0, 1);
        AntLease last = Check.manor("L90T9T8");
        strayOf("at 9 it stays", last, 1, 10, 1, 1);
        strayOf("both at 9", last, 2, 5, 1, 2);
        AntLease five = Check.manor("L42T6T6T6T6T6");
        strayOf("all five", five, 5, 3, 16807, 100000);
        strayOf("one or more", five, 1, 3, 99757, 100000);
        strayOf("three or more by half", five, 3, 5, 1, 2);
        strayOf("none or more", five, 0, 3, 1, 1);
        AntLease mixed = Check.manor("L42T6T1T4T9");
        strayOf("one surely, one never", mixed, 3, 3, 21, 100);
        strayOf("two of them", mixed, 2, 3, 79, 100);
        mixed.sprinkle(4);
        strayOf("ants go nowhere", mixed, 1, 3, 0, 1);
        CHECK.due("nothing is moved", mixed.thing(0, 0), 6);
    }

    private static void strayRefusals() {
        AntLease x = Check.manor("L42T6");
        CHECK.dueAll("m", AntLease.BAD, x.stray(-1, 0, true), x.stray(6, 0, true), x.stray(Integer.MIN_VALUE, 0, false),
                x.stray(Integer.MAX_VALUE, 0, false));
        CHECK.dueAll("x", AntLease.BAD, x.stray(0, -1, true), x.stray(0, 11, true), x.stray(0, Integer.MAX_VALUE, false));
        CHECK.due("five of one", x.stray(5, 10, true), 0);
    }

    private static void seed() {
        AntLease x = new AntLease();
        CHECK.due("at first", x.seed(Long.MIN_VALUE), 0);
        CHECK.due("least", x.seed(Long.MAX_VALUE), Long.MIN_VALUE);
        CHECK.due("most", x.seed(-1), Long.MAX_VALUE);
        x.years(1);
        CHECK.due("a year on", x.seed(0), -6364136223846793005L + 1442695040888963407L);
    }

    /** A seed by which the next chances are as told. */
    private static long seedFor(int... chances) {
        for (long v = 0; v < 1000000; v++) {
            long x = v;
            boolean as = true;
            for (int i = 0; i < chances.length && as; i++) {
                x = x * 6364136223846793005L + 1442695040888963407L;
                as = (x >>> 33) % 32 == chances[i];
            }
            if (as) {
                return v;
            }
        }
        CHECK.due("a seed is found", 0, 1);
        return 0;
    }

    private static int yearsBy(AntLease x, int... chances) {
        x.seed(seedFor(chances));
        return x.years(chances.length);
    }

    private static void yearsPutUp() {
        String[] texts = {"L53", "L53F00", "L53F00F00", "L53F00F00F00", "L53F00F00F00F00"};
        for (int foods = 1; foods <= 4; foods++) {
            AntLease x = Check.manor(texts[foods]);
            AntLease bare = Check.manor(texts[foods]);
            x.put(0, 1);
            for (int chance = 0; chance < 8; chance++) {
                boolean can = chance / 2 < foods;
                CHECK.due("nine and one by " + chance, yearsBy(x, chance, 26), can ? 3 + 2 : 3 + 4);
                CHECK.due("nine alone by " + chance, yearsBy(bare, chance, 31), 3 + 4);
            }
        }
    }

    private static void yearsLeft() {
        String[] texts = {"L53F90F92F92F92", "L53F92F91F92F92", "L53F92F92F93F92", "L53F92F92F92F90"};
        for (int food = 0; food < 4; food++) {
            AntLease x = Check.manor(texts[food]);
            x.put(0, 9);
            x.put(0, 2);
            for (int chance = 8; chance < 16; chance++) {
                boolean kept = (chance - 8) / 2 == food;
                CHECK.due("left by " + chance, yearsBy(x, chance, 27), kept ? 3 + 4 : 3 + 2);
            }
        }
        AntLease salt = Check.manor("L53F92");
        salt.put(0, 9);
        salt.put(0, 1);
        CHECK.due("one salt and one", yearsBy(salt, 8, 9, 28), 3 + 3 + 4);
        AntLease hoard = Check.manor("L53F03F00");
        hoard.put(0, 9);
        hoard.put(1, 1);
        CHECK.due("no whole ten", yearsBy(hoard, 8, 29), 3 + 2);
        hoard.put(0, 1);
        CHECK.due("a whole ten", yearsBy(hoard, 8, 29), 3 + 4);
    }

    private static void yearsSprinkled() {
        AntLease x = Check.manor("L53");
        for (int place = 0; place < 10; place++) {
            x.sprinkle(place);
            for (int chance = 16; chance < 26; chance++) {
                CHECK.due("powder at " + place + " and by " + chance, yearsBy(x, chance, 30),
                        chance - 16 == place ? 3 + 3 : 3 + 2);
            }
            x.undo();
        }
    }

    private static void years() {
        AntLease x = Check.manor("L59F90F91F92F93");
        for (int chance = 0; chance < 32; chance++) {
            x.seed(seedFor(chance));
            CHECK.due("one year by " + chance, x.years(1), 9);
        }
        AntLease three = Check.manor("L53F00");
        for (int chance = 0; chance < 32; chance++) {
            three.seed(seedFor(chance));
            CHECK.due("one year from three by " + chance, three.years(1), chance < 26 ? 3 : 4);
        }
        AntLease powdered = Check.manor("L53F00");
        powdered.sprinkle(0);
        powdered.sprinkle(1);
        powdered.seed(seedFor(26));
        CHECK.due("powder that lies counts", powdered.years(1), 2);
        powdered.seed(4);
        CHECK.dueAll("m", AntLease.BAD, powdered.years(0), powdered.years(31), powdered.years(-1),
                powdered.years(Integer.MAX_VALUE), powdered.years(Integer.MIN_VALUE));
        CHECK.due("refused: the seed stays", powdered.seed(4), 4);
        powdered.years(30);
        CHECK.dueAbout("nothing changes", powdered, 1, 0, 5, 3, 0, 0, 0, 0, 3, 0b111111100, 0, 2, 0, 6);
        CHECK.due("larder", powdered.food(0, 1), 0);
        AntLease split = Check.manor("L53F00");
        split.seed(11);
        split.years(30);
        long after = split.seed(11);
        split.years(17);
        split.years(13);
        CHECK.due("the seed goes on from year to year", split.seed(0), after);
    }
}
