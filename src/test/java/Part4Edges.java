import java.util.function.Supplier;
import java.util.function.ToLongFunction;

/** "Terms", part 4: refusals, NONE, fractions. And how many calls an object is for. */
final class Part4Edges {
    private static final String PART = "Part 4";
    private static final int UNKNOWN = AntLease.UNKNOWN, BAD = AntLease.BAD, LATE = AntLease.LATE, FULL = AntLease.FULL;
    private static final int LEAST = Integer.MIN_VALUE, MOST = Integer.MAX_VALUE;

    private final Edges e;

    private Part4Edges(Edges e) {
        this.e = e;
    }

    static void test(Edges e) {
        Part4Edges part = new Part4Edges(e);
        part.numbers();
        part.order();
        part.changesNothing();
        part.fractions();
        part.manyCalls();
    }

    private void numbers() {
        e.of(PART, "REFUSALS: UNKNOWN -1 (there is no such FOOD, THING, PLACE, SLOT), BAD -2, LATE -3, FULL -4.",
                () -> {
            e.dueRow("constants", new long[] {-1, -2, -3, -4}, UNKNOWN, BAD, LATE, FULL);
            AntLease x = Check.manor("L00F90T0");
            e.dueAll("no such food", -1, x.food(1, 0), x.put(1, 1), x.eat(1, 1), x.leave(1, 1), x.share(1, true),
                    x.rests(0, 1, 0));
            e.dueAll("no such thing", -1, x.thing(1, 0), x.move(1, 1));
            e.dueAll("no such place", -1, x.move(0, 10), x.sprinkle(10), x.say(10, 0));
            e.dueAll("no such slot", -1, x.keep(2), x.again(2));
            e.dueRow("bad, late, full", new long[] {-2, -3, -4}, x.about(14), x.undo(), States.fullText().write(0));
        });
        e.of(PART, "NONE is -9.", () -> {
            AntLease x = Check.manor("L00T1");
            e.dueRow("none", new long[] {-9, -9, -9, -9}, AntLease.NONE, x.fault(), x.thing(0, 1), x.judge(1, 0));
        });
    }

    private void order() {
        e.of(PART, "Of several what is told first.", () -> {
            AntLease text = States.fullText();
            e.dueAll("write: bad, full", BAD, text.write(-1), text.write(256));
            AntLease x = Check.manor("L00F00T0");
            e.dueAll("food, thing: unknown, bad", UNKNOWN, x.food(1, 5), x.food(-1, -1), x.thing(1, 3),
                    x.thing(-1, -1));
            e.dueAll("put, eat, leave: unknown, bad", UNKNOWN, x.put(1, 0), x.put(-1, 10), x.eat(1, 0), x.eat(-1, 10),
                    x.leave(1, 0), x.leave(-1, 10));
            e.dueAll("eat, leave: bad, late", BAD, x.eat(0, 0), x.eat(0, 10), x.leave(0, 0), x.leave(0, 10));
            AntLease full = States.fullLarder();
            e.dueAll("put: bad, full", BAD, full.put(0, 0), full.put(0, 10));
            e.dueAll("put: unknown, bad, whatever is full", UNKNOWN, full.put(4, 10), full.put(-1, 9));
            e.dueAll("move: unknown, late", UNKNOWN, x.move(1, 0), x.move(-1, 0), x.move(1, 10), x.move(0, 10));
            AntLease said = States.fullSaid();
            e.dueAll("say: unknown, bad, full", UNKNOWN, said.say(10, 2), said.say(-1, -1), said.say(10, 0));
            e.dueAll("say: bad, full", BAD, said.say(0, 2), said.say(9, -1));
            e.dueAll("rests: unknown, bad", UNKNOWN, x.rests(1, 1, 0), x.rests(-1, -1, 2), x.rests(0, 1, 2),
                    x.rests(1, 0, -1));
            e.dueAll("again: unknown, late", UNKNOWN, x.again(-1), x.again(2));
        });
    }

    private void refused(Supplier<AntLease> state, long want, String call, ToLongFunction<AntLease> ask) {
        e.dueUnchanged(call, state, want, ask);
    }

    private void changesNothing() {
        e.of(PART, "What is refused changes nothing.", () -> {
            refusedOfText();
            refusedOfFoods(LEAST);
            refusedOfFoods(-1);
            refusedOfFoods(4);
            refusedOfFoods(MOST);
            refusedByN(LEAST);
            refusedByN(0);
            refusedByN(10);
            refusedByN(MOST);
            refusedOfPlaces();
            refusedAsLateOrFull();
            refusedQuestions();
        });
    }

    private void refusedOfText() {
        refused(States::busy, BAD, "write(-1)", x -> x.write(-1));
        refused(States::busy, BAD, "write(256)", x -> x.write(256));
        refused(States::fullText, FULL, "write('0')", x -> x.write('0'));
        refused(States::fullText, BAD, "write(256)", x -> x.write(256));
        refused(States::busy, LATE, "manor()", x -> x.manor());
        refused(States::fullText, LATE, "manor()", x -> x.manor());
        refused(AntLease::new, LATE, "manor()", x -> x.manor());
    }

    private void refusedOfFoods(int food) {
        refused(States::busy, UNKNOWN, "put", x -> x.put(food, 1));
        refused(States::busy, UNKNOWN, "eat", x -> x.eat(food, 1));
        refused(States::busy, UNKNOWN, "leave", x -> x.leave(food, 1));
        refused(States::fullActs, UNKNOWN, "put", x -> x.put(food, 1));
        refused(States::fullActs, UNKNOWN, "leave", x -> x.leave(food, 1));
        refused(States::busy, UNKNOWN, "food", x -> x.food(food, 0));
        refused(States::busy, UNKNOWN, "share", x -> x.share(food, true));
        refused(States::busy, UNKNOWN, "rests", x -> x.rests(food, 0, 0));
        refused(States::busy, UNKNOWN, "rests", x -> x.rests(0, food, 0));
    }

    private void refusedByN(int n) {
        refused(States::busy, BAD, "put", x -> x.put(0, n));
        refused(States::busy, BAD, "eat", x -> x.eat(0, n));
        refused(States::busy, BAD, "leave", x -> x.leave(0, n));
        refused(States::busy, BAD, "leave of a hoard", x -> x.leave(3, n));
        refused(States::fullActs, BAD, "eat", x -> x.eat(0, n));
    }

    private void refusedOfPlaces() {
        int[] places = {LEAST, -1, 10, 32, MOST};
        for (int place : places) {
            refused(States::busy, UNKNOWN, "move to " + place, x -> x.move(0, place));
            refused(States::busy, UNKNOWN, "sprinkle at " + place, x -> x.sprinkle(place));
            refused(States::fullActs, UNKNOWN, "sprinkle at " + place, x -> x.sprinkle(place));
            refused(States::busy, UNKNOWN, "say of " + place, x -> x.say(place, 1));
            refused(States::busy, UNKNOWN, "keep in " + place, x -> x.keep(place));
            refused(States::busy, UNKNOWN, "again from " + place, x -> x.again(place));
        }
        int[] things = {LEAST, -1, 5, MOST};
        for (int thing : things) {
            refused(States::busy, UNKNOWN, "move " + thing, x -> x.move(thing, 1));
            refused(States::busy, UNKNOWN, "thing " + thing, x -> x.thing(thing, 0));
        }
        refused(States::busy, UNKNOWN, "keep in 2", x -> x.keep(2));
        refused(States::busy, UNKNOWN, "again from 2", x -> x.again(2));
    }

    private void refusedAsLateOrFull() {
        refused(States::fullLarder, FULL, "put: there are 999", x -> x.put(0, 1));
        refused(States::fullLarder, LATE, "eat of none", x -> x.eat(1, 1));
        refused(States::fullLarder, LATE, "leave of none", x -> x.leave(2, 1));
        refused(States::fullLarder, LATE, "leave of a hoard of none", x -> x.leave(3, 1));
        refused(States::busy, LATE, "leave of a hoard of 99, then ten tens", x -> {
            x.leave(3, 9);
            long answer = x.leave(3, 1);
            x.undo();
            return answer;
        });
        refused(States::busy, LATE, "move to where it is", x -> x.move(0, 5));
        refused(States::busy, LATE, "sprinkle where there is some", x -> x.sprinkle(7));
        refused(States::fullActs, LATE, "sprinkle where there is some", x -> x.sprinkle(7));
        refused(AntLease::new, LATE, "undo of none", x -> x.undo());
        refused(AntLease::new, LATE, "again of none", x -> x.again(0));
        refused(States::fullLarder, LATE, "again of the other", x -> x.again(0));
        refused(States::fullSaid, FULL, "say a seventh", x -> x.say(4, 0));
        refused(States::fullSaid, BAD, "say a seventh wrongly", x -> x.say(4, 2));
        refused(States::busy, BAD, "say wrongly", x -> x.say(4, -1));
    }

    private void refusedQuestions() {
        refused(States::busy, BAD, "about(14)", x -> x.about(14));
        refused(States::busy, BAD, "food(0, 5)", x -> x.food(0, 5));
        refused(States::busy, BAD, "thing(0, 3)", x -> x.thing(0, 3));
        refused(States::busy, BAD, "later(21, 0)", x -> x.later(21, 0));
        refused(States::busy, BAD, "later(1, 3)", x -> x.later(1, 3));
        refused(States::busy, BAD, "least(2)", x -> x.least(2));
        refused(States::busy, BAD, "judge(5, 0)", x -> x.judge(5, 0));
        refused(States::busy, BAD, "judge(1, 1000)", x -> x.judge(1, 1000));
        refused(States::busy, BAD, "lines(2)", x -> x.lines(2));
        refused(States::busy, BAD, "rests(0, 0, 0)", x -> x.rests(0, 0, 0));
        refused(States::busy, BAD, "rests(0, 1, 2)", x -> x.rests(0, 1, 2));
        refused(States::busy, BAD, "stray(6, 0)", x -> x.stray(6, 0, true));
        refused(States::busy, BAD, "stray(0, 11)", x -> x.stray(0, 11, true));
        refused(States::busy, BAD, "years(0)", x -> x.years(0));
        refused(States::busy, BAD, "years(31)", x -> x.years(31));
    }

    private void fractions() {
        e.of(PART, "FRACTIONS are told above (upper = true), below, in least terms.", () -> {
            AntLease x = Check.manor("L52T7T7");
            e.dueRow("none", new long[] {0, 1}, x.stray(1, 10, true), x.stray(1, 10, false));
            e.dueRow("all", new long[] {1, 1}, x.stray(1, 0, true), x.stray(1, 0, false));
            e.dueRow("16 of 100", new long[] {4, 25}, x.stray(2, 6, true), x.stray(2, 6, false));
            e.dueRow("49 of 100", new long[] {49, 100}, x.stray(2, 3, true), x.stray(2, 3, false));
            AntLease y = Check.manor("L00F90F90F90F90");
            States.putUp(y, 0, 20);
            for (int food = 0; food < 4; food++) {
                y.leave(food, 2);
            }
            e.dueRow("12 of 24", new long[] {1, 2}, y.share(0, true), y.share(0, false));
            AntLease z = Check.manor("L00F90F90");
            States.putUp(z, 0, 900);
            z.leave(0, 9);
            z.leave(1, 9);
            e.dueRow("a whole number", new long[] {9, 1}, z.share(0, true), z.share(0, false));
        });
    }

    private void manyCalls() {
        e.of("What it is", "An object is used for at most 512 calls after it has been made; what later calls answer is free.", () -> {
            AntLease x = new AntLease();
            for (int call = 1; call <= 511; call++) {
                e.due("call " + call, x.quarter(), Math.min(9, call));
            }
            e.due("call 512", x.about(4), 511);
            AntLease y = Check.manor("L09F00");
            for (int call = 8; call <= 510; call++) {
                if (call % 5 == 0) {
                    y.quarter();
                } else {
                    y.put(0, 9);
                }
            }
            e.dueRow("calls 511, 512", new long[] {9, 13}, y.about(3), y.undo());
        });
    }
}
