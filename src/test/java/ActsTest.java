/** Promises 9 to 15: quarters, put up, eaten, left, moved, sprinkled, all undone. */
public final class ActsTest {
    private static final Check CHECK = new Check();

    public static void main(String[] args) {
        quarter();
        goodwillIsCutOff();
        pins();
        put();
        eat();
        leave();
        move();
        sprinkle();
        undo();
        undoOfEach();
        fullRow();
        refusedIsNoAct();
        CHECK.end();
    }

    private static void quarter() {
        AntLease x = Check.manor("L44F90F90T0");
        x.put(0, 9);
        x.put(1, 9);
        x.leave(0, 3);
        x.leave(1, 2);
        x.sprinkle(1);
        x.sprinkle(2);
        x.move(0, 6);
        CHECK.due("kept, two with powder", x.quarter(), 3);
        CHECK.dueAbout("then", x, 2, 1, 4, 3, 1, 0, 0, 0, 0, 0b11111110, 1, 8, 0, 11);
        CHECK.dueAll("nothing lies, nothing was put up", 0, x.food(0, 2), x.food(0, 3), x.food(1, 2), x.food(1, 3));
        CHECK.due("larder stays", x.food(0, 1), 96);
        CHECK.due("place stays", x.thing(0, 0), 6);
        CHECK.due("nothing due is kept", x.quarter(), 4);
        CHECK.due("the second quarter", x.about(4), 2);
    }

    private static void goodwillIsCutOff() {
        AntLease x = Check.manor("L09F90");
        CHECK.due("nine at most", x.quarter(), 9);
        x.sprinkle(5);
        CHECK.due("cut off when all is done", x.quarter(), 9);
        x.sprinkle(5);
        x.sprinkle(6);
        CHECK.due("two powders", x.quarter(), 8);
        for (int place = 0; place < 10; place++) {
            x.sprinkle(place);
        }
        CHECK.due("none at least", x.quarter(), 0);
        x.put(0, 9);
        x.put(0, 1);
        CHECK.due("short at none", x.quarter(), 0);
        CHECK.due("and on from there", x.quarter(), 1);
    }

    private static void pins() {
        AntLease x = Check.manor("L09F90");
        for (int i = 0; i < 5; i++) {
            x.put(0, 9);
        }
        CHECK.due("short by four", x.quarter(), 8);
        CHECK.due("four pins", x.about(5), 4);
        for (int i = 0; i < 4; i++) {
            x.put(0, 9);
        }
        x.leave(0, 1);
        CHECK.due("short by two", x.quarter(), 7);
        CHECK.due("two more", x.about(5), 6);
        CHECK.due("kept", x.quarter(), 8);
        CHECK.due("no pins", x.about(5), 0);
    }

    private static void put() {
        AntLease x = Check.manor("L00F90F03");
        CHECK.due("put", x.put(0, 9), 99);
        CHECK.due("put one", x.put(0, 1), 100);
        CHECK.due("a hoard grows by grains", x.put(1, 7), 7);
        CHECK.due("put up", x.food(0, 3), 10);
        CHECK.dueAll("no such food", AntLease.UNKNOWN, x.put(2, 1), x.put(-1, 1), x.put(2, 0),
                x.put(Integer.MIN_VALUE, 1), x.put(Integer.MAX_VALUE, 1));
        CHECK.dueAll("put n", AntLease.BAD, x.put(0, 0), x.put(0, 10), x.put(0, -1), x.put(0, Integer.MIN_VALUE),
                x.put(0, Integer.MAX_VALUE));
        for (int i = 1; i <= 99; i++) {
            CHECK.due("put more", x.put(0, 9), 100 + 9 * i);
        }
        CHECK.due("991 and 9 are too many", x.put(0, 9), AntLease.FULL);
        CHECK.due("wrong is told ahead of full", x.put(0, 10), AntLease.BAD);
        CHECK.due("999 are not", x.put(0, 8), 999);
        CHECK.due("1000 are", x.put(0, 1), AntLease.FULL);
        CHECK.due("put up, with what the larder holds", x.food(0, 3), 909);
        CHECK.due("left makes room", x.leave(0, 1), 1);
        CHECK.due("room for one", x.put(0, 1), 999);
        CHECK.due("due of all", x.about(6), 91);
    }

    private static void eat() {
        AntLease x = Check.manor("L00F10F13");
        CHECK.due("eat", x.eat(0, 9), 1);
        CHECK.due("fewer", x.eat(0, 2), AntLease.LATE);
        CHECK.due("the last", x.eat(0, 1), 0);
        CHECK.due("none", x.eat(0, 1), AntLease.LATE);
        CHECK.due("wrong is told ahead of late", x.eat(0, 10), AntLease.BAD);
        CHECK.due("a hoard is eaten by grains", x.eat(1, 1), 9);
        CHECK.dueAll("no such food", AntLease.UNKNOWN, x.eat(2, 1), x.eat(-1, 1), x.eat(2, 10),
                x.eat(Integer.MIN_VALUE, 1), x.eat(Integer.MAX_VALUE, 1));
        CHECK.dueAll("eat n", AntLease.BAD, x.eat(1, 0), x.eat(1, 10), x.eat(1, -1), x.eat(1, Integer.MIN_VALUE));
        CHECK.dueAll("floor and put up are not eaten", 0, x.food(0, 2), x.food(0, 3));
    }

    private static void leave() {
        AntLease x = Check.manor("L00F10F23F11");
        CHECK.due("leave", x.leave(0, 4), 4);
        CHECK.due("leave more", x.leave(0, 5), 9);
        CHECK.due("from the larder", x.food(0, 1), 1);
        CHECK.due("fewer", x.leave(0, 2), AntLease.LATE);
        CHECK.due("the last", x.leave(0, 1), 10);
        CHECK.due("a hoard by tens", x.leave(1, 1), 10);
        x.eat(1, 1);
        CHECK.due("nine are no ten", x.leave(1, 1), AntLease.LATE);
        x.put(1, 1);
        CHECK.due("again whole", x.leave(1, 1), 20);
        CHECK.due("none left", x.food(1, 1), 0);
        CHECK.due("nine tens are more", x.leave(1, 9), AntLease.LATE);
        CHECK.due("grains, not worth", x.leave(2, 3), 3);
        CHECK.dueAll("no such food", AntLease.UNKNOWN, x.leave(3, 1), x.leave(-1, 1), x.leave(3, 0),
                x.leave(Integer.MIN_VALUE, 1), x.leave(Integer.MAX_VALUE, 1));
        CHECK.dueAll("leave n", AntLease.BAD, x.leave(0, 0), x.leave(0, 10), x.leave(0, -1),
                x.leave(1, Integer.MAX_VALUE), x.leave(1, Integer.MIN_VALUE));
        AntLease whole = Check.manor("L00F93");
        CHECK.due("nine tens", whole.leave(0, 9), 90);
    }

    private static void move() {
        AntLease x = Check.manor("L00T3T0");
        CHECK.due("right", x.move(0, 9), 6);
        CHECK.due("left", x.move(0, 0), 9);
        CHECK.due("there", x.thing(0, 0), 0);
        CHECK.due("the other stays", x.thing(1, 0), 0);
        CHECK.due("it is there", x.move(0, 0), AntLease.LATE);
        CHECK.dueAll("no such thing", AntLease.UNKNOWN, x.move(2, 0), x.move(-1, 0), x.move(Integer.MIN_VALUE, 0),
                x.move(Integer.MAX_VALUE, 0));
        CHECK.dueAll("no such place", AntLease.UNKNOWN, x.move(0, 10), x.move(0, -1), x.move(0, Integer.MIN_VALUE),
                x.move(0, Integer.MAX_VALUE));
    }

    private static void sprinkle() {
        AntLease x = new AntLease();
        int[] places = {9, 0, 5, 3, 4, 1, 2, 8, 7, 6};
        int bits = 0;
        for (int i = 0; i < places.length; i++) {
            CHECK.due("sprinkle", x.sprinkle(places[i]), i + 1);
            CHECK.due("there is some", x.sprinkle(places[i]), AntLease.LATE);
            bits |= 1 << places[i];
            CHECK.due("powder", x.about(8), bits);
        }
        CHECK.dueAll("no such place", AntLease.UNKNOWN, x.sprinkle(10), x.sprinkle(-1), x.sprinkle(Integer.MIN_VALUE),
                x.sprinkle(Integer.MAX_VALUE), x.sprinkle(32), x.sprinkle(31));
        x.quarter();
        CHECK.due("anew after a quarter", x.sprinkle(9), 1);
    }

    private static void undo() {
        AntLease x = Check.manor("L34F90F93T2");
        x.put(0, 9);
        x.put(1, 9);
        x.put(0, 9);
        x.quarter();
        int[] before = all(x);
        x.put(0, 9);
        x.put(0, 9);
        x.leave(1, 1);
        x.eat(0, 2);
        x.sprinkle(0);
        x.sprinkle(1);
        x.move(0, 7);
        x.quarter();
        for (int left = 11; left >= 4; left--) {
            CHECK.due("undo", x.undo(), left);
        }
        same("undone", all(x), before);
        CHECK.due("the quarter", x.undo(), 3);
        CHECK.dueAbout("before the quarter", x, 2, 1, 3, 4, 0, 0, 2, 2, 0, 0b11111111, 1, 3, 0, 11);
        x.undo();
        x.undo();
        CHECK.due("the first", x.undo(), 0);
        CHECK.due("there is none", x.undo(), AntLease.LATE);
        CHECK.due("as at first", x.food(0, 1), 90);
    }

    private static void undoOfEach() {
        AntLease x = Check.manor("L34F90F93T2");
        x.put(0, 9);
        x.put(0, 9);
        x.leave(0, 1);
        x.sprinkle(5);
        int[] before = all(x);
        x.put(1, 4);
        x.undo();
        same("put", all(x), before);
        // kept and gone on from, each begins with an empty row, and from another state
        before = onward(x);
        x.eat(0, 4);
        x.undo();
        same("eat", all(x), before);
        before = onward(x);
        x.leave(1, 4);
        x.undo();
        same("leave", all(x), before);
        before = onward(x);
        x.move(0, 4);
        x.undo();
        same("move", all(x), before);
        before = onward(x);
        x.sprinkle(3);
        x.undo();
        same("sprinkle", all(x), before);
        before = onward(x);
        x.quarter();
        x.undo();
        same("quarter", all(x), before);
    }

    private static int[] onward(AntLease x) {
        x.put(0, 1);
        x.keep(0);
        x.again(0);
        return all(x);
    }

    private static void fullRow() {
        AntLease x = Check.manor("L00F00");
        for (int i = 1; i <= 40; i++) {
            x.put(0, 1);
            CHECK.due("acts after " + i, x.about(11), Math.min(i, 14));
        }
        CHECK.due("a refused one", x.put(0, 0), AntLease.BAD);
        for (int left = 13; left >= 0; left--) {
            CHECK.due("undo", x.undo(), left);
            CHECK.due("grains", x.food(0, 1), 26 + left);
        }
        CHECK.due("the first ones are forgotten", x.undo(), AntLease.LATE);
        CHECK.due("what they did stays", x.food(0, 1), 26);
        x.put(0, 3);
        CHECK.due("on again", x.undo(), 0);
        CHECK.due("and back", x.food(0, 1), 26);

        AntLease none = Check.manor("L00F10");
        for (int i = 0; i < 13; i++) {
            none.put(0, 9);
        }
        for (int i = 0; i < 14; i++) {
            none.eat(0, 9);
        }
        CHECK.due("the last grain", none.eat(0, 1), 0);
        CHECK.due("short at none", none.quarter(), 0);
        CHECK.due("acts that answer 0 are acts", none.undo(), 13);
        CHECK.due("a grain", none.undo(), 12);
        CHECK.due("is there again", none.food(0, 1), 1);
    }

    private static void refusedIsNoAct() {
        AntLease x = Check.manor("L00F00T0");
        x.sprinkle(0);
        int[] before = all(x);
        x.put(0, 10);
        x.put(1, 1);
        x.eat(0, 1);
        x.eat(0, 0);
        x.leave(0, 1);
        x.leave(3, 1);
        x.move(0, 0);
        x.move(0, 10);
        x.sprinkle(0);
        x.sprinkle(10);
        same("refused", all(x), before);
        CHECK.due("still the one before is undone", x.undo(), 0);
        CHECK.due("no powder", x.about(8), 0);
    }

    /** All that is told of the manor and its foods and things. */
    private static int[] all(AntLease x) {
        int[] row = new int[12 + 20 + 5];
        for (int i = 0; i < 12; i++) {
            row[i] = x.about(i);
        }
        for (int i = 0; i < 20; i++) {
            row[12 + i] = x.food(i / 5, i % 5);
        }
        for (int i = 0; i < 5; i++) {
            row[32 + i] = x.thing(i, 0);
        }
        return row;
    }

    private static void same(String when, int[] got, int[] want) {
        for (int i = 0; i < want.length; i++) {
            CHECK.due(when + " [" + i + "]", got[i], want[i]);
        }
    }
}
