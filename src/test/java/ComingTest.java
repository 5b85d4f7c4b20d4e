/** Promises 16 to 19: later, least, judge, share. */
public final class ComingTest {
    private static final Check CHECK = new Check();

    public static void main(String[] args) {
        later();
        least();
        leastCountsWhatLies();
        judge();
        judgeRefusals();
        judgeChangesNothing();
        share();
        CHECK.end();
    }

    private static void later() {
        AntLease x = Check.manor("L43F90T4T1T9");
        for (int i = 0; i < 4; i++) {
            x.put(0, 9);
        }
        x.leave(0, 1);
        x.sprinkle(3);
        x.sprinkle(9);
        int[] goodwill = {3, 0, 1, 2, 3, 4, 5, 6, 7, 8, 9, 9};
        int[] known = {1, 1, 1, 1, 3, 3, 7, 7, 7, 7, 7, 7};
        for (int n = 0; n < goodwill.length; n++) {
            CHECK.due("goodwill in " + n, x.later(n, 0), goodwill[n]);
            CHECK.due("pins in " + n, x.later(n, 1), n == 1 ? 2 : 0);
            CHECK.due("known in " + n, x.later(n, 2), known[n]);
        }
        CHECK.due("in 20", x.later(20, 0), 9);
        CHECK.dueAbout("nothing is changed", x, 1, 3, 4, 3, 0, 0, 3, 2, 0b1000001000, 0b11110000, 1, 7, 0, 12);
        CHECK.dueAll("later n", AntLease.BAD, x.later(-1, 0), x.later(21, 0), x.later(Integer.MIN_VALUE, 0),
                x.later(Integer.MAX_VALUE, 0));
        CHECK.dueAll("later what", AntLease.BAD, x.later(0, -1), x.later(0, 3), x.later(20, Integer.MAX_VALUE));
        x.quarter();
        CHECK.due("a pin stays as it is now", x.later(0, 1), 2);
        for (int i = 0; i < 2; i++) {
            x.put(0, 9);
        }
        CHECK.due("and one more", x.later(1, 1), 3);
        CHECK.due("then none", x.later(2, 1), 0);
    }

    private static AntLease owing(String text, int nines) {
        AntLease x = Check.manor(text);
        for (int i = 0; i < nines; i++) {
            x.put(0, 9);
        }
        return x;
    }

    private static void leastOf(String what, AntLease x, int grains, int figures) {
        CHECK.due(what + ": grains", x.least(0), grains);
        CHECK.due(what + ": figures", x.least(1), figures);
    }

    private static void least() {
        leastOf("nothing due", new AntLease(), 0, 0);
        leastOf("plain", owing("L00F00", 4), 3, 3);
        leastOf("the last of like ones counts first", owing("L00F90F90F90", 4), 3, 3);
        leastOf("the sweet one ahead of plain ones", owing("L00F91F90F90", 4), 2, 101);
        leastOf("sweet alone", owing("L00F91F90", 3), 1, 10);
        leastOf("salt", owing("L00F92", 4), 6, 6);
        leastOf("only nine salt", owing("L00F92", 5), 8, 8);
        leastOf("ten salt would be too many", owing("L00F92", 6), AntLease.NONE, AntLease.NONE);
        leastOf("a hoard", owing("L00F93", 4), 10, 1);
        leastOf("a hoard and plain ones", owing("L00F93F90", 14), 12, 12);
        leastOf("plain ones ahead of a hoard", owing("L00F93F90", 10), 9, 9);
        leastOf("ten by two foods", owing("L00F90F90F93", 12), 10, 1);
        leastOf("no hoard that is whole", owing("L00F03", 1), 0, 0);
        leastOf("four foods", owing("L00F90F91F92F93", 30), 18, 9900);
        AntLease few = Check.manor("L00F00F21");
        for (int i = 0; i < 3; i++) {
            few.put(0, 9);
        }
        for (int i = 0; i < 3; i++) {
            few.eat(0, 9);
        }
        leastOf("no more than there are", few, 1, 1);
        for (int i = 0; i < 2; i++) {
            few.eat(1, 9);
        }
        few.eat(1, 2);
        leastOf("nothing there", few, AntLease.NONE, AntLease.NONE);
        CHECK.dueAll("least what", AntLease.BAD, few.least(-1), few.least(2), few.least(Integer.MAX_VALUE),
                few.least(Integer.MIN_VALUE));
        CHECK.dueAbout("nothing is changed", few, 2, 0, 0, 0, 0, 0, 2, 2, 0, 1, 0, 9, 0, 9);
    }

    private static void leastCountsWhatLies() {
        AntLease x = owing("L00F92", 3);
        x.leave(0, 1);
        leastOf("a salt one lies", x, 3, 3);
        x.leave(0, 2);
        leastOf("three lie", x, 1, 1);
        x.leave(0, 1);
        leastOf("enough lie", x, 0, 0);
    }

    private static void judge() {
        AntLease x = Check.manor("L32F10F23T1T5T9");
        CHECK.due("a quarter", x.judge(1, 0L), AntLease.NONE);
        CHECK.due("three quarters, goodwill", x.judge(4, 605L), AntLease.NONE);
        CHECK.due("three quarters, more goodwill", x.judge(4, 606L), 3);
        CHECK.due("goodwill after one", x.judge(2, 603L), AntLease.NONE);
        CHECK.due("goodwill as it is", x.judge(1, 602L), AntLease.NONE);
        CHECK.due("goodwill is less", x.judge(1, 603L), 0);
        CHECK.due("a quarter that leaves no goodwill", new AntLease().judge(2, 400000L), AntLease.NONE);
        CHECK.due("put up", x.judge(1, 109L), AntLease.NONE);
        CHECK.due("put up none", x.judge(1, 100L), 0);
        CHECK.due("put up of an unknown food", x.judge(1, 121L), 0);
        CHECK.due("left", x.judge(1, 209L), AntLease.NONE);
        CHECK.due("left none", x.judge(1, 200L), 0);
        CHECK.due("left more than there are", x.judge(2, 209202L), 1);
        CHECK.due("put up, then left", x.judge(3, 209101202L), AntLease.NONE);
        CHECK.due("left of a hoard", x.judge(1, 212L), AntLease.NONE);
        CHECK.due("left of a hoard, more", x.judge(1, 213L), 0);
        CHECK.due("moved", x.judge(2, 324502L), AntLease.NONE);
        CHECK.due("moved to where it is", x.judge(1, 311L + 4L), 0);
        CHECK.due("moved there, and there", x.judge(2, 324324L), 1);
        CHECK.due("moved: an unknown thing", x.judge(1, 330L), 0);
        CHECK.due("sprinkled", x.judge(2, 404500L), AntLease.NONE);
        CHECK.due("sprinkled in the way", x.judge(2, 402500L), 1);
        CHECK.due("sprinkled twice", x.judge(2, 402402L), 1);
        CHECK.due("sprinkled, a quarter, again", x.judge(3, 402000402L), AntLease.NONE);
        CHECK.due("known", x.judge(2, 500501L), AntLease.NONE);
        CHECK.due("not known", x.judge(1, 502L), 0);
        CHECK.due("an unknown thing is not known", x.judge(1, 503L), 0);
        CHECK.due("short, then less goodwill", x.judge(4, 109109000602L), 3);
        CHECK.due("short, then less goodwill by one", x.judge(4, 109109000601L), AntLease.NONE);
        CHECK.due("left, so it is kept", x.judge(4, 109102211000L), AntLease.NONE);
    }

    private static void judgeRefusals() {
        AntLease x = Check.manor("L32F10F23T1T5T9");
        long[] noDoings = {1L, 10L, 410L, 414L, 510L, 610L, 700L, 800L, 900L, 999L};
        for (long doing : noDoings) {
            CHECK.due("no doing: " + doing, x.judge(1, doing), 0);
            CHECK.due("no doing behind a quarter: " + doing, x.judge(2, doing), 1);
        }
        CHECK.dueAll("judge n", AntLease.BAD, x.judge(0, 0L), x.judge(5, 0L), x.judge(-1, 0L),
                x.judge(Integer.MIN_VALUE, 0L), x.judge(Integer.MAX_VALUE, 0L));
        CHECK.dueAll("judge row", AntLease.BAD, x.judge(1, -1L), x.judge(1, 1000L), x.judge(2, 1000000L),
                x.judge(3, 1000000000L), x.judge(4, 1000000000000L), x.judge(4, Long.MAX_VALUE),
                x.judge(4, Long.MIN_VALUE), x.judge(4, -1L));
        CHECK.due("all figures", x.judge(4, 999999999999L), 0);
    }

    private static void judgeChangesNothing() {
        AntLease x = Check.manor("L32F10F23T1T5T9");
        x.judge(4, 101201302409L);
        x.judge(1, 0L);
        CHECK.dueAbout("nothing is changed", x, 2, 3, 3, 2, 0, 0, 0, 0, 0, 0b111110, 0b11, 0, 0, 15);
        CHECK.due("larder", x.food(0, 1), 10);
        CHECK.due("place", x.thing(0, 0), 1);
    }

    private static void shareOf(String what, AntLease x, int food, int upper, int lower) {
        CHECK.due(what + ": above", x.share(food, true), upper);
        CHECK.due(what + ": below", x.share(food, false), lower);
    }

    private static void share() {
        AntLease x = Check.manor("L00F90F91F92F93");
        for (int food = 0; food < 4; food++) {
            shareOf("nothing lies", x, food, 0, 1);
        }
        x.leave(0, 3);
        shareOf("nothing is due", x, 0, 0, 1);
        for (int i = 0; i < 6; i++) {
            x.put(3, 9);
        }
        shareOf("alone", x, 0, 3, 1);
        x.leave(1, 2);
        // due 5: the plain 3, the sweet 4; each is cut when it comes last
        shareOf("plain of two", x, 0, 2, 1);
        shareOf("sweet of two", x, 1, 3, 1);
        x.leave(2, 4);
        // plain 3, sweet 4, salt 2: six orders
        shareOf("plain of three", x, 0, 5, 3);
        shareOf("sweet of three", x, 1, 13, 6);
        shareOf("salt of three", x, 2, 7, 6);
        x.leave(3, 1);
        shareOf("hoard of four", x, 3, 7, 4);
        shareOf("plain of four", x, 0, 13, 12);
        shareOf("sweet of four", x, 1, 17, 12);
        shareOf("salt of four", x, 2, 3, 4);
        AntLease two = Check.manor("L00F90F90");
        for (int i = 0; i < 4; i++) {
            two.put(0, 9);
        }
        two.leave(0, 1);
        two.leave(1, 3);
        shareOf("one of two foods", two, 0, 1, 2);
        shareOf("the other of two foods", two, 1, 5, 2);
        CHECK.dueAll("no such food", AntLease.UNKNOWN, x.share(4, true), x.share(-1, false),
                x.share(Integer.MIN_VALUE, true), x.share(Integer.MAX_VALUE, false));
    }
}
