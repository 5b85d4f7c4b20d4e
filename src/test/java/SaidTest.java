/** Promises 20 to 22: say, unsay, lines. */
public final class SaidTest {
    private static final Check CHECK = new Check();

    public static void main(String[] args) {
        say();
        unsay();
        lines();
        powder();
        CHECK.end();
    }

    private static void say() {
        AntLease x = new AntLease();
        CHECK.dueAll("no such place", AntLease.UNKNOWN, x.say(10, 0), x.say(-1, 1), x.say(10, 2),
                x.say(Integer.MIN_VALUE, 0), x.say(Integer.MAX_VALUE, 0));
        CHECK.dueAll("knew", AntLease.BAD, x.say(0, 2), x.say(9, -1), x.say(0, Integer.MAX_VALUE));
        CHECK.due("nothing is said", x.about(12), 0);
        for (int i = 1; i <= 6; i++) {
            CHECK.due("say", x.say(i % 2 == 0 ? 9 : 0, 0), i);
        }
        CHECK.due("six are said", x.say(0, 0), AntLease.FULL);
        CHECK.due("a wrong place is told ahead of it", x.say(10, 0), AntLease.UNKNOWN);
        CHECK.due("and a wrong word too", x.say(0, 2), AntLease.BAD);
        CHECK.due("six", x.about(12), 6);
        CHECK.due("no act", x.about(11), 0);
    }

    private static void unsay() {
        AntLease x = new AntLease();
        CHECK.due("nothing to unsay", x.unsay(), 0);
        x.say(1, 1);
        x.say(2, 0);
        CHECK.due("unsay", x.unsay(), 2);
        CHECK.due("unsaid", x.about(12), 0);
        CHECK.due("all lines are open", x.lines(0), 100);
        CHECK.due("one is said again", x.say(2, 1), 1);
        CHECK.due("only that one counts", x.lines(1), 2);
    }

    private static void lines() {
        AntLease x = Check.manor("L55");
        CHECK.due("all", x.lines(0), 100);
        CHECK.due("the first of all", x.lines(1), 0);
        x.say(9, 1);
        // from skirting s goodwill must be 9 - s or more: 1 + 2 + .. + 10
        CHECK.due("they knew it at 9", x.lines(0), 55);
        CHECK.due("first by nine", x.lines(1), 9);
        x.say(8, 0);
        CHECK.due("but not at 8", x.lines(0), 1);
        CHECK.due("only from there", x.lines(1), 90);
        x.say(7, 1);
        CHECK.due("no line", x.lines(0), 0);
        CHECK.due("no first line", x.lines(1), AntLease.NONE);
        CHECK.dueAll("lines what", AntLease.BAD, x.lines(-1), x.lines(2), x.lines(Integer.MIN_VALUE));
        x.unsay();
        x.say(4, 1);
        x.say(4, 1);
        x.say(6, 0);
        // from skirtings 0 .. 4, by one of two goodwills each
        CHECK.due("between", x.lines(0), 10);
        CHECK.due("first between", x.lines(1), 4);
        x.say(4, 0);
        CHECK.due("known and not known", x.lines(1), AntLease.NONE);
    }

    private static void powder() {
        AntLease x = Check.manor("L00");
        x.sprinkle(5);
        x.say(4, 1);
        CHECK.due("from the left alone", x.lines(0), 10 + 9 + 8 + 7 + 6);
        CHECK.due("first from the left", x.lines(1), 4);
        x.say(6, 1);
        CHECK.due("not on both sides", x.lines(0), 0);
        CHECK.due("none is first", x.lines(1), AntLease.NONE);
        x.quarter();
        CHECK.due("as the powder is now", x.lines(0), 4 + 5 + 6 + 7 + 8 + 9 + 8 + 7 + 6 + 5);
        x.unsay();
        x.say(5, 0);
        x.sprinkle(5);
        CHECK.due("nobody goes on powder", x.lines(0), 100);
        x.manor();
        CHECK.due("a new manor", x.about(12), 1);
        CHECK.due("said stays, powder does not", x.lines(0), 5 + 4 + 3 + 2 + 1 + 0 + 1 + 2 + 3 + 4);
    }
}
