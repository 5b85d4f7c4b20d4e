import java.util.Arrays;

/** All that can be seen of an object. The object is used up by it: acts are undone, slots gone on from. */
final class Everything {
    /** With what the states before it used, an object stays within its 512 calls. */
    private static final int MOST_CALLS = 320;

    private final AntLease x;
    private final long[] seen = new long[MOST_CALLS];
    private int calls = 0;

    private Everything(AntLease x) {
        this.x = x;
    }

    static long[] of(AntLease x) {
        Everything all = new Everything(x);
        all.lookAtManor();
        all.lookAhead();
        all.goBack();
        all.goOn();
        return Arrays.copyOf(all.seen, all.calls);
    }

    private void see(long answer) {
        seen[calls] = answer;
        calls++;
    }

    private void lookAtManor() {
        see(x.fault());
        for (int what = 0; what < 14; what++) {
            see(x.about(what));
        }
        lookAtFoods();
        for (int thing = 0; thing < 5; thing++) {
            see(x.thing(thing, 0));
            see(x.thing(thing, 2));
        }
    }

    private void lookAtFoods() {
        for (int food = 0; food < 4; food++) {
            for (int what = 0; what < 4; what++) {
                see(x.food(food, what));
            }
        }
    }

    private void lookAhead() {
        for (int what = 0; what < 3; what++) {
            see(x.later(1, what));
        }
        see(x.least(1));
        see(x.share(0, true));
        see(x.lines(0));
        see(x.lines(1));
        see(x.rests(0, 1, 0));
        see(x.stray(1, 3, true));
        long seed = x.seed(0);
        see(seed);
        x.seed(seed);
        see(x.years(30));
    }

    private void goBack() {
        for (int i = 0; i < 15; i++) {
            see(x.undo());
            for (int what = 3; what < 6; what++) {
                see(x.about(what));
            }
            see(x.about(8));
            see(x.food(i % 4, 1));
            see(x.food(i % 4, 2));
            see(x.thing(i % 5, 0));
        }
    }

    private void goOn() {
        for (int slot = 0; slot < 2; slot++) {
            see(x.again(slot));
            for (int what = 3; what < 9; what++) {
                see(x.about(what));
            }
            lookAtFoods();
            for (int thing = 0; thing < 5; thing++) {
                see(x.thing(thing, 0));
            }
        }
        see(x.unsay());
        see(x.write('0'));
        see(x.fault());
        see(x.manor());
        see(x.wipe());
    }
}
