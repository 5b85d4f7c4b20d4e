import java.util.Random;

/** Every promise: long mixed runs, right and wrong arguments, each answer compared with Model's. */
public final class ModelTest {
    private static final int RUNS = 250;
    private static final int CALLS = 512;
    /** A manor told anew: wiped, 25 bytes, its fault, made. */
    private static final int MOST_AT_ONCE = 28;
    private static final int[] EXTREMES = {Integer.MIN_VALUE, Integer.MAX_VALUE, -1, 32, 256, 1000};

    private final Random random;
    private final AntLease lease = new AntLease();
    private final Model model = new Model();
    private int calls = 0;
    private String call = "";
    private boolean wrong = false;

    private ModelTest(long run) {
        random = new Random(run);
    }

    public static void main(String[] args) {
        int wrongRuns = 0;
        for (int run = 0; run < RUNS && wrongRuns < 5; run++) {
            if (!new ModelTest(run).isRight(run)) {
                wrongRuns++;
            }
        }
        if (wrongRuns > 0) {
            System.exit(1);
        }
    }

    private boolean isRight(int run) {
        while (calls <= CALLS - MOST_AT_ONCE && !wrong) {
            String before = model.toString();
            int chance = random.nextInt(100);
            if (calls == 0 || chance == 0) {
                tellManor();
            } else if (chance < 55) {
                act();
            } else {
                ask();
            }
            if (wrong) {
                System.out.println("run " + run + ", call " + calls + ": " + call + ", before it: " + before);
            }
        }
        return !wrong;
    }

    private void compare(String what, long got, long want) {
        calls++;
        if (got != want && !wrong) {
            wrong = true;
            call = what + " answered " + got + ", due is " + want;
        }
    }

    /** Mostly 0 .. most, sometimes just beyond, now and then far beyond. */
    private int upTo(int most) {
        int chance = random.nextInt(60);
        if (chance == 0) {
            return EXTREMES[random.nextInt(EXTREMES.length)];
        }
        if (chance < 3) {
            return chance == 1 ? -1 : most + 1;
        }
        return random.nextInt(most + 1);
    }

    private void tellManor() {
        compare("wipe", lease.wipe(), model.wipe());
        StringBuilder text = new StringBuilder("L").append(random.nextInt(10)).append(random.nextInt(10));
        int foods = random.nextInt(5);
        int things = random.nextInt(6);
        while (foods + things > 0) {
            if (things == 0 || foods > 0 && random.nextBoolean()) {
                text.append('F').append(random.nextInt(10)).append(random.nextInt(4));
                foods--;
            } else {
                text.append('T').append(random.nextInt(10));
                things--;
            }
        }
        if (random.nextInt(6) == 0) {
            text.setCharAt(random.nextInt(text.length()), "LFT0349x".charAt(random.nextInt(8)));
        }
        if (random.nextInt(6) == 0) {
            text.setLength(random.nextInt(text.length()));
        }
        for (int i = 0; i < text.length(); i++) {
            compare("write", lease.write(text.charAt(i)), model.write(text.charAt(i)));
        }
        compare("fault", lease.fault(), model.fault());
        compare("manor", lease.manor(), model.manor());
    }

    private void act() {
        int a = upTo(3);
        int b = 1 + upTo(8);
        int place = upTo(9);
        switch (random.nextInt(14)) {
            case 0: compare("quarter", lease.quarter(), model.quarter()); break;
            case 1: case 2: case 3: case 4: case 5:
                compare("put " + a + " 9", lease.put(a, 9), model.put(a, 9)); break;
            case 6: compare("put " + a + " " + b, lease.put(a, b), model.put(a, b)); break;
            case 7: compare("eat " + a + " " + b, lease.eat(a, b), model.eat(a, b)); break;
            case 8: case 9: compare("leave " + a + " " + b, lease.leave(a, b), model.leave(a, b)); break;
            case 10:
                int thing = upTo(4);
                compare("move " + thing + " " + place, lease.move(thing, place), model.move(thing, place)); break;
            case 11:
                if (random.nextInt(2) == 0) {
                    compare("sprinkle " + place, lease.sprinkle(place), model.sprinkle(place));
                }
                break;
            case 12: compare("undo", lease.undo(), model.undo()); break;
            default: keptOrSaid(); break;
        }
    }

    private void keptOrSaid() {
        int slot = upTo(1);
        switch (random.nextInt(6)) {
            case 0: compare("keep " + slot, lease.keep(slot), model.keep(slot)); break;
            case 1: compare("again " + slot, lease.again(slot), model.again(slot)); break;
            case 2: compare("unsay", lease.unsay(), model.unsay()); break;
            case 3:
                long v = random.nextLong();
                compare("seed " + v, lease.seed(v), model.seed(v)); break;
            default:
                int place = upTo(9);
                compare("say " + place + " " + slot, lease.say(place, slot), model.say(place, slot)); break;
        }
    }

    private void ask() {
        int a = upTo(3);
        int b = upTo(3);
        int what = upTo(1);
        boolean upper = random.nextBoolean();
        switch (random.nextInt(12)) {
            case 0:
                int topic = upTo(13);
                compare("about " + topic, lease.about(topic), model.about(topic)); break;
            case 1:
                int of = upTo(4);
                compare("food " + a + " " + of, lease.food(a, of), model.food(a, of)); break;
            case 2:
                int thing = upTo(4);
                int which = upTo(2);
                compare("thing " + thing + " " + which, lease.thing(thing, which), model.thing(thing, which)); break;
            case 3:
                int n = upTo(20);
                int told = upTo(2);
                compare("later " + n + " " + told, lease.later(n, told), model.later(n, told)); break;
            case 4:
                // the model's way is slow
                if (random.nextInt(3) == 0) {
                    compare("least " + what, lease.least(what), model.least(what));
                }
                break;
            case 5: judge(); break;
            case 6: case 7: compare("share " + a, lease.share(a, upper), model.share(a, upper)); break;
            case 8: compare("lines " + what, lease.lines(what), model.lines(what)); break;
            case 9:
                compare("rests " + a + " " + b + " " + what, lease.rests(a, b, what), model.rests(a, b, what)); break;
            case 10:
                int m = upTo(5);
                int x = upTo(10);
                compare("stray " + m + " " + x, lease.stray(m, x, upper), model.stray(m, x, upper)); break;
            default:
                int years = upTo(30);
                compare("years " + years, lease.years(years), model.years(years)); break;
        }
    }

    private void judge() {
        int n = 1 + upTo(3);
        long row = 0;
        for (int i = 0; i < 4 && i < n; i++) {
            int kind = random.nextInt(random.nextInt(10) == 0 ? 10 : 7);
            int second = kind >= 1 && kind <= 3 ? random.nextInt(4) : random.nextInt(12) == 0 ? 1 : 0;
            int third = kind == 0 && random.nextInt(6) != 0 ? 0 : kind == 5 ? random.nextInt(5) : random.nextInt(10);
            row = row * 1000 + 100 * kind + 10 * second + third;
        }
        if (random.nextInt(20) == 0) {
            row = random.nextLong() >> random.nextInt(64);
        }
        compare("judge " + n + " " + row, lease.judge(n, row), model.judge(n, row));
    }
}
