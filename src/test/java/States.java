/** Objects brought to states from which calls are refused or asked. */
final class States {
    private States() {
    }

    /** Every kind of food, five things, pins, powder, acts, both slots kept, said, a seed, half a text. */
    static AntLease busy() {
        AntLease x = Check.manor("L53F50F41F32F93T5T3T9T0T7");
        x.seed(12345);
        putUp(x, 0, 27);
        x.quarter();
        x.keep(0);
        x.put(1, 9);
        x.put(3, 9);
        x.put(2, 5);
        x.leave(0, 1);
        x.sprinkle(7);
        x.move(4, 6);
        x.keep(1);
        x.eat(2, 3);
        x.say(4, 1);
        x.say(8, 0);
        x.wipe();
        Check.write(x, "L0");
        return x;
    }

    static AntLease fullText() {
        AntLease x = busy();
        for (int i = 0; i < 46; i++) {
            x.write('0');
        }
        return x;
    }

    static AntLease fullSaid() {
        AntLease x = busy();
        for (int place = 0; place < 4; place++) {
            x.say(place, 1);
        }
        return x;
    }

    /** More acts than the row holds, each leaving its mark. */
    static AntLease fullActs() {
        AntLease x = busy();
        for (int i = 0; i < 6; i++) {
            x.put(i % 4, i + 1);
            x.move(i % 5, i);
        }
        return x;
    }

    /** Food 0 has as many grains as can be, and none of the others has one. */
    static AntLease fullLarder() {
        AntLease x = Check.manor("L22F90F01F02F03T2");
        putUp(x, 0, 909);
        x.keep(1);
        return x;
    }

    /** As few calls as there can be by which so many grains are put up. */
    static void putUp(AntLease x, int food, int grains) {
        for (int rest = grains; rest > 0; rest -= 9) {
            x.put(food, Math.min(9, rest));
        }
    }

    static void eatUp(AntLease x, int food, int grains) {
        for (int rest = grains; rest > 0; rest -= 9) {
            x.eat(food, Math.min(9, rest));
        }
    }

    static void sprinkleAll(AntLease x, int places) {
        for (int place = 0; place < places; place++) {
            x.sprinkle(place);
        }
    }
}
