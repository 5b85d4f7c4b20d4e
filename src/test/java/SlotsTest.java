/** Promises 27 and 28: keep, again. */
public final class SlotsTest {
    private static final Check CHECK = new Check();

    public static void main(String[] args) {
        keepAndAgain();
        all();
        refusals();
        CHECK.end();
    }

    private static void keepAndAgain() {
        AntLease x = Check.manor("L44F90T0");
        CHECK.due("keep", x.keep(0), 0);
        x.quarter();
        CHECK.due("keep another", x.keep(1), 1);
        CHECK.due("keep is no act", x.about(11), 1);
        x.quarter();
        CHECK.due("on from the first", x.again(0), 0);
        CHECK.due("quarter", x.about(4), 0);
        CHECK.due("goodwill", x.about(3), 4);
        CHECK.due("no acts", x.about(11), 0);
        CHECK.due("none to undo", x.undo(), AntLease.LATE);
        x.put(0, 1);
        CHECK.due("on from the second", x.again(1), 1);
        CHECK.due("goodwill then", x.about(3), 5);
        CHECK.due("larder then", x.food(0, 1), 90);
        x.put(0, 5);
        CHECK.due("kept as often as one likes", x.again(1), 1);
        CHECK.due("it was kept, not what came of it", x.food(0, 1), 90);
        x.put(0, 5);
        CHECK.due("kept anew", x.keep(1), 1);
        x.eat(0, 9);
        x.again(1);
        CHECK.due("the new one stands", x.food(0, 1), 95);
        x.again(0);
        CHECK.due("the other is as it was", x.food(0, 1), 90);
    }

    private static void all() {
        AntLease x = Check.manor("L44F90F93T0T8");
        for (int i = 0; i < 3; i++) {
            x.put(0, 9);
        }
        x.quarter();
        x.put(1, 9);
        x.put(0, 9);
        x.leave(1, 1);
        x.leave(0, 2);
        x.move(0, 2);
        x.sprinkle(7);
        x.say(1, 1);
        x.seed(5);
        CHECK.due("keep", x.keep(1), 1);
        x.eat(0, 9);
        x.leave(1, 2);
        x.quarter();
        x.put(0, 9);
        x.put(0, 9);
        x.move(0, 9);
        x.move(1, 0);
        x.sprinkle(1);
        x.quarter();
        x.say(2, 1);
        x.seed(6);
        x.wipe();
        CHECK.due("again", x.again(1), 1);
        CHECK.dueAbout("all as it was kept", x, 2, 2, 4, 3, 1, 2, 1, 0, 0b10000000, 0b1111110, 1, 0, 2, 0);
        int[] first = {0, 124, 2, 9, 2};
        int[] second = {3, 89, 10, 9, 10};
        for (int what = 0; what < 5; what++) {
            CHECK.due("food 0, " + what, x.food(0, what), first[what]);
            CHECK.due("food 1, " + what, x.food(1, what), second[what]);
        }
        CHECK.due("thing 0", x.thing(0, 0), 2);
        CHECK.due("thing 1", x.thing(1, 0), 8);
        CHECK.due("the seed is not kept", x.seed(0), 6);
    }

    private static void refusals() {
        AntLease x = Check.manor("L44F90T0");
        x.put(0, 1);
        CHECK.dueAll("no such slot", AntLease.UNKNOWN, x.keep(2), x.keep(-1), x.again(2), x.again(-1),
                x.keep(Integer.MIN_VALUE), x.keep(Integer.MAX_VALUE), x.again(32), x.again(Integer.MIN_VALUE));
        CHECK.dueAll("none were kept", AntLease.LATE, x.again(0), x.again(1));
        CHECK.due("acts stay, if it is refused", x.about(11), 1);
        x.keep(1);
        CHECK.due("still none in the other", x.again(0), AntLease.LATE);
        CHECK.due("in this", x.again(1), 0);
        AntLease bare = new AntLease();
        CHECK.due("before there is a manor", bare.keep(0), 0);
        bare.quarter();
        CHECK.due("and again", bare.again(0), 0);
        CHECK.due("goodwill as at first", bare.about(3), 0);
    }
}
