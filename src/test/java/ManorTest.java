/** Promises 1 to 8: a new object, the text, the manor and what is told about it. */
public final class ManorTest {
    private static final Check CHECK = new Check();

    public static void main(String[] args) {
        newObject();
        write();
        wipe();
        fault();
        manor();
        allThereCanBe();
        about();
        dueAndShort();
        ants();
        food();
        worth();
        thing();
        CHECK.end();
    }

    private static void newObject() {
        AntLease x = new AntLease();
        CHECK.dueAbout("new", x, 0, 0, 0, 0, 0, 0, 0, 0, 0, 1, 0, 0, 0, 0);
        CHECK.due("new: food", x.food(0, 0), AntLease.UNKNOWN);
        CHECK.due("new: thing", x.thing(0, 0), AntLease.UNKNOWN);
        CHECK.due("new: undo", x.undo(), AntLease.LATE);
        CHECK.due("new: again(0)", x.again(0), AntLease.LATE);
        CHECK.due("new: again(1)", x.again(1), AntLease.LATE);
        CHECK.due("new: unsay", x.unsay(), 0);
        CHECK.due("new: seed", x.seed(1), 0);
        CHECK.due("another object is for itself", new AntLease().seed(0), 0);
    }

    private static void write() {
        AntLease x = new AntLease();
        CHECK.dueAll("write wrong", AntLease.BAD, x.write(-1), x.write(256), x.write(Integer.MIN_VALUE),
                x.write(Integer.MAX_VALUE));
        CHECK.due("nothing was written", x.about(13), 0);
        for (int i = 1; i <= 48; i++) {
            CHECK.due("write " + i, x.write(i % 2 == 0 ? 0 : 255), i);
        }
        CHECK.due("write into a full text", x.write('L'), AntLease.FULL);
        CHECK.due("wrong is told ahead of full", x.write(256), AntLease.BAD);
        CHECK.due("full text", x.about(13), 48);
    }

    private static void wipe() {
        AntLease x = new AntLease();
        CHECK.due("wipe nothing", x.wipe(), 0);
        Check.write(x, "L12");
        CHECK.due("wipe three", x.wipe(), 3);
        CHECK.due("wiped", x.about(13), 0);
        CHECK.due("write after a wipe", x.write('L'), 1);
        CHECK.due("only what came after it stands", x.fault(), 1);
        CHECK.due("wipe one", x.wipe(), 1);
    }

    private static void faultOf(String text, int want) {
        AntLease x = new AntLease();
        Check.write(x, text);
        CHECK.due("fault of " + text, x.fault(), want);
        if (want != AntLease.NONE) {
            CHECK.due("manor of " + text, x.manor(), AntLease.LATE);
        }
        CHECK.due("length of " + text, x.about(13), text.length());
    }

    private static void fault() {
        String[] whole = {"L00", "L99", "L00F00", "L00F93", "L00T0", "L00T9", "L00T1F22T3", "L12F00F11F22F33T0T1T2T3T4",
            "L12T0T1T2T3T4F00F11F22F33", "L00T5T5T5T5T5"};
        for (String text : whole) {
            faultOf(text, AntLease.NONE);
        }
        String[] notAtItsEnd = {"", "L", "L5", "L00F", "L00F9", "L00T", "L00F00T", "L00F00F00F00F0"};
        for (String text : notAtItsEnd) {
            faultOf(text, text.length());
        }
        faultOf("l00", 0);
        faultOf("0", 0);
        faultOf("F00", 0);
        faultOf("L/0", 1);
        faultOf("L:0", 1);
        faultOf("LL", 1);
        faultOf("L0/", 2);
        faultOf("L0:", 2);
        faultOf("L00L", 3);
        faultOf("L000", 3);
        faultOf("L00 ", 3);
        faultOf("L00f00", 3);
        faultOf("L00t0", 3);
        faultOf("L00F/", 4);
        faultOf("L00F:0", 4);
        faultOf("L00F0/", 5);
        faultOf("L00F04", 5);
        faultOf("L00F0F", 5);
        faultOf("L00F000", 6);
        faultOf("L00T/", 4);
        faultOf("L00T:", 4);
        faultOf("L00T00", 5);
        faultOf("L00F00F00F00F00F", 15);
        faultOf("L00F00F00F00F00F00T0", 15);
        faultOf("L00F00F00F00F00T0F", 17);
        faultOf("L00T0T0T0T0T0T", 13);
        faultOf("L00T0T0T0T0T0F00T", 16);
        faultOf("X00F00F00F00F00F", 0);
        faultOf("L00F00F00F00F00T0T0T0T0T0T0T0T0T0T0T0T0T0T0T0T0", 25);
        faultOf("L\u00ff0", 1);
        faultOf("L\u00000", 1);
    }

    private static void manor() {
        AntLease x = new AntLease();
        Check.write(x, "L73F12F90T4T0T9");
        CHECK.due("manor", x.manor(), 23);
        CHECK.dueAbout("manor", x, 2, 3, 7, 3, 0, 0, 0, 0, 0, 0b1111110000, 0b101, 0, 0, 15);
        CHECK.dueAll("kinds", 2, x.food(0, 0), x.food(1, 0) + 2);
        CHECK.due("first larder", x.food(0, 1), 10);
        CHECK.due("second larder", x.food(1, 1), 90);
        CHECK.due("first thing", x.thing(0, 0), 4);
        CHECK.due("second thing", x.thing(1, 0), 0);
        CHECK.due("third thing", x.thing(2, 0), 9);

        for (int i = 0; i < 3; i++) {
            x.put(1, 9);
        }
        x.quarter();
        x.put(0, 9);
        x.leave(1, 4);
        x.sprinkle(2);
        x.move(0, 5);
        x.keep(0);
        x.keep(1);
        x.say(3, 1);
        x.seed(77);
        CHECK.dueAbout("used", x, 2, 3, 7, 2, 1, 2, 0, 0, 4, 0b1111100000, 0b101, 8, 1, 15);
        CHECK.due("manor anew", x.manor(), 23);
        CHECK.dueAbout("anew", x, 2, 3, 7, 3, 0, 0, 0, 0, 0, 0b1111110000, 0b101, 0, 1, 15);
        CHECK.dueAll("anew: floor, put up", 0, x.food(0, 2), x.food(0, 3), x.food(1, 2), x.food(1, 3));
        CHECK.due("anew: larder", x.food(1, 1), 90);
        CHECK.due("anew: place", x.thing(0, 0), 4);
        CHECK.dueAll("anew: no acts, nothing kept", AntLease.LATE, x.undo(), x.again(0), x.again(1));
        CHECK.due("anew: the seed stays", x.seed(0), 77);

        x.put(0, 1);
        x.keep(0);
        x.wipe();
        Check.write(x, "L0");
        CHECK.due("manor with a fault", x.manor(), AntLease.LATE);
        CHECK.dueAbout("refused", x, 2, 3, 7, 3, 0, 0, 0, 0, 0, 0b1111110000, 0b101, 1, 1, 2);
        CHECK.due("refused: still kept", x.again(0), 0);
        Check.write(x, "0");
        CHECK.due("no foods, no things", x.manor(), 0);
        CHECK.dueAbout("bare", x, 0, 0, 0, 0, 0, 0, 0, 0, 0, 1, 0, 0, 1, 3);
    }

    private static void allThereCanBe() {
        AntLease x = Check.manor("L64F10F21F32F93T1T2T3T4T5");
        for (int food = 0; food < 4; food++) {
            x.put(food, food + 6);
            x.leave(food, food + 1);
        }
        int[][] foods = {{0, 15, 1, 6, 1}, {1, 25, 2, 7, 4}, {2, 35, 3, 8, 1}, {3, 59, 40, 9, 40}};
        for (int food = 0; food < 4; food++) {
            for (int what = 0; what < 5; what++) {
                CHECK.due("food " + food + ", " + what, x.food(food, what), foods[food][what]);
            }
        }
        for (int thing = 0; thing < 5; thing++) {
            CHECK.due("thing " + thing, x.thing(thing, 0), thing + 1);
            x.move(thing, 9 - thing);
        }
        for (int thing = 0; thing < 5; thing++) {
            CHECK.due("moved thing " + thing, x.thing(thing, 0), 9 - thing);
        }
        // the last thing was at its place already: that is no act
        CHECK.dueAbout("all there can be", x, 4, 5, 6, 4, 0, 0, 3, 0, 0, 0b1111111100, 31, 12, 0, 25);
    }

    private static void about() {
        AntLease x = Check.manor("L55F90T5");
        CHECK.dueAll("about wrong", AntLease.BAD, x.about(-1), x.about(14), x.about(Integer.MIN_VALUE),
                x.about(Integer.MAX_VALUE));
        x.put(0, 9);
        x.put(0, 9);
        x.sprinkle(4);
        x.sprinkle(9);
        x.say(1, 1);
        x.say(1, 0);
        CHECK.dueAbout("in use", x, 1, 1, 5, 5, 0, 0, 1, 1, 0b1000010000, 0b0111100000, 1, 4, 2, 8);
        x.quarter();
        CHECK.dueAbout("a quarter on", x, 1, 1, 5, 2, 1, 1, 0, 0, 0, 0b0011111000, 1, 5, 2, 8);
    }

    private static void dueAndShort() {
        AntLease x = Check.manor("L05F90F91F92");
        x.put(0, 9);
        CHECK.due("nine put up: due", x.about(6), 0);
        CHECK.due("nine put up: short", x.about(7), 0);
        x.put(1, 1);
        CHECK.due("a tenth of all foods together", x.about(6), 1);
        CHECK.due("short of it", x.about(7), 1);
        x.eat(0, 9);
        CHECK.due("what is eaten was put up all the same", x.about(6), 1);
        for (int i = 0; i < 4; i++) {
            x.put(2, 9);
        }
        x.put(2, 4);
        CHECK.due("fifty", x.about(6), 5);
        x.leave(2, 3);
        CHECK.due("three salt", x.about(7), 4);
        x.leave(1, 1);
        CHECK.due("a sweet one", x.about(7), 2);
        x.leave(0, 1);
        CHECK.due("a plain one", x.about(7), 1);
        x.leave(0, 9);
        CHECK.due("more than due is not less than none short", x.about(7), 0);
    }

    private static void ants() {
        CHECK.due("nowhere but the skirting", Check.manor("L40").about(9), 0b10000);
        CHECK.due("to the left end", Check.manor("L13").about(9), 0b11111);
        CHECK.due("to the right end", Check.manor("L83").about(9), 0b1111100000);
        CHECK.due("all", Check.manor("L59").about(9), 0b1111111111);
        CHECK.due("from 9", Check.manor("L98").about(9), 0b1111111110);
        AntLease x = Check.manor("L45T4T2T7");
        x.sprinkle(2);
        CHECK.due("powder stops them on one side", x.about(9), 0b1111111000);
        CHECK.due("not on the powder", x.about(10), 0b101);
        x.sprinkle(6);
        CHECK.due("and on the other", x.about(9), 0b111000);
        x.sprinkle(4);
        CHECK.due("powder at the skirting", x.about(9), 0);
        CHECK.due("then nothing is known", x.about(10), 0);
    }

    private static void food() {
        AntLease x = Check.manor("L05F10F21F32F93");
        for (int food = 0; food < 4; food++) {
            CHECK.due("kind of " + food, x.food(food, 0), food);
        }
        x.put(3, 7);
        x.put(3, 2);
        x.leave(3, 2);
        CHECK.due("larder", x.food(3, 1), 79);
        CHECK.due("floor", x.food(3, 2), 20);
        CHECK.due("put up", x.food(3, 3), 9);
        CHECK.due("worth", x.food(3, 4), 20);
        CHECK.dueAll("the others are as they were", 0, x.food(0, 2), x.food(1, 2), x.food(2, 3), x.food(0, 4));
        CHECK.dueAll("no such food", AntLease.UNKNOWN, x.food(4, 0), x.food(-1, 0), x.food(Integer.MIN_VALUE, 0),
                x.food(Integer.MAX_VALUE, 0), x.food(4, 5));
        CHECK.dueAll("food what", AntLease.BAD, x.food(0, -1), x.food(0, 5), x.food(3, Integer.MAX_VALUE));
    }

    private static void worth() {
        AntLease x = Check.manor("L05F90F91F92F93");
        for (int n = 1; n <= 5; n++) {
            for (int food = 0; food < 4; food++) {
                x.leave(food, 1);
            }
            CHECK.due("plain " + n, x.food(0, 4), n);
            CHECK.due("sweet " + n, x.food(1, 4), 2 * n);
            CHECK.due("salt " + n, x.food(2, 4), n / 2);
            CHECK.due("hoard " + n, x.food(3, 4), 10 * n);
        }
    }

    private static void thing() {
        AntLease x = Check.manor("L52T5T3T7T0T9");
        int[] places = {5, 3, 7, 0, 9};
        int[] found = {5, 3, 7, AntLease.NONE, AntLease.NONE};
        int[] astray = {0, 0, 0, 3, 2};
        for (int thing = 0; thing < 5; thing++) {
            CHECK.due("place of " + thing, x.thing(thing, 0), places[thing]);
            CHECK.due("where they say " + thing + " is", x.thing(thing, 1), found[thing]);
            CHECK.due("astray " + thing, x.thing(thing, 2), astray[thing]);
        }
        x.sprinkle(6);
        CHECK.due("behind powder", x.thing(2, 1), AntLease.NONE);
        CHECK.due("behind powder: astray", x.thing(2, 2), 2);
        x.sprinkle(5);
        CHECK.due("ants go nowhere", x.thing(0, 2), AntLease.NONE);
        CHECK.due("ants say nothing", x.thing(0, 1), AntLease.NONE);
        CHECK.due("but there it is", x.thing(0, 0), 5);
        CHECK.dueAll("no such thing", AntLease.UNKNOWN, x.thing(5, 0), x.thing(-1, 0), x.thing(5, 3),
                x.thing(Integer.MIN_VALUE, 0), x.thing(Integer.MAX_VALUE, 0));
        CHECK.dueAll("thing what", AntLease.BAD, x.thing(0, 3), x.thing(0, -1), x.thing(4, Integer.MIN_VALUE));
        AntLease far = Check.manor("L00T9");
        CHECK.due("as far as can be", far.thing(0, 2), 9);
    }
}
