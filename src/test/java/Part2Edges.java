/** "Terms", part 2: quarters to come, the least, astray, judged, shares. */
final class Part2Edges {
    private static final String PART = "Part 2";
    private static final int NONE = AntLease.NONE;

    private final Edges e;

    private Part2Edges(Edges e) {
        this.e = e;
    }

    static void test(Edges e) {
        Part2Edges part = new Part2Edges(e);
        part.nothingIsChanged();
        part.inQuarters();
        part.least();
        part.astray();
        part.judgedRows();
        part.judgedDoings();
        part.judgedAsked();
        part.share();
    }

    private void nothingIsChanged() {
        e.of(PART, "In what follows nothing is changed.", () -> {
            for (int n = 0; n <= 20; n += 10) {
                int quarters = n;
                e.dueUnchanged("later", States::busy, n == 0 ? 0b10011 : 0b11111, x -> x.later(quarters, 2));
            }
            e.dueUnchanged("least", States::busy, 100, x -> x.least(1));
            e.dueUnchanged("astray", States::busy, 3, x -> x.thing(2, 2));
            e.dueUnchanged("judge: all can be", States::busy, NONE, x -> x.judge(4, 109211308000L));
            e.dueUnchanged("judge: the last can not be", States::busy, 3, x -> x.judge(4, 109211308308L));
            e.dueUnchanged("judge: powder", States::busy, NONE, x -> x.judge(2, 400409L));
            e.dueUnchanged("share", States::busy, 1, x -> x.share(0, true));
        });
    }

    private void inQuarters() {
        e.of(PART, "IN n QUARTERS (0 .. 20), nothing else being done: GOODWILL; PINS; THINGS that are KNOWN (bits).", () -> {
            AntLease x = Check.manor("L33F90T3T4T7T9");
            States.putUp(x, 0, 30);
            x.leave(0, 1);
            x.sprinkle(1);
            x.sprinkle(4);
            int[] goodwill = {3, 0, 1, 2, 3, 4, 5, 6, 7, 8, 9, 9, 9, 9, 9, 9, 9, 9, 9, 9, 9};
            for (int n = 0; n <= 20; n++) {
                int known = n == 0 ? 1 : goodwill[n] < 1 ? 1 : goodwill[n] < 4 ? 3 : goodwill[n] < 6 ? 7 : 15;
                e.dueRow("in " + n, new long[] {goodwill[n], n == 1 ? 2 : 0, known}, x.later(n, 0), x.later(n, 1),
                        x.later(n, 2));
            }
            e.dueAll("in -1, in 21", AntLease.BAD, x.later(-1, 0), x.later(21, 0), x.later(-1, 1), x.later(21, 2));
            x.quarter();
            e.dueRow("in 0: as it is now", new long[] {0, 2, 1}, x.later(0, 0), x.later(0, 1), x.later(0, 2));
        });
    }

    private void leastOf(String when, AntLease x, long grains, long figures) {
        e.dueRow(when, new long[] {grains, figures}, x.least(0), x.least(1));
    }

    private void least() {
        e.of(PART, "LEAST: of all ways to have 0 .. 9 GRAINS of each FOOD LEFT now (of a HOARD 0 .. 9 times ten;"
                + " no more than there are)", () -> {
            AntLease plain = Check.manor("L00F00");
            States.putUp(plain, 0, 99);
            leastOf("nine", plain, 9, 9);
            plain.put(0, 1);
            leastOf("ten would be too many", plain, NONE, NONE);
            AntLease hoard = Check.manor("L00F03");
            States.putUp(hoard, 0, 909);
            leastOf("nine tens", hoard, 90, 9);
            hoard.put(0, 1);
            leastOf("ten tens would be too many", hoard, NONE, NONE);
            AntLease few = Check.manor("L00F00F00");
            States.putUp(few, 0, 30);
            States.eatUp(few, 0, 27);
            leastOf("three of three", few, 3, 30);
            few.eat(0, 1);
            leastOf("three of two", few, NONE, NONE);
            AntLease ten = Check.manor("L00F13F00");
            States.putUp(ten, 1, 10);
            States.eatUp(ten, 1, 10);
            leastOf("a ten of ten", ten, 10, 10);
            ten.eat(0, 1);
            leastOf("a ten of nine", ten, NONE, NONE);
            AntLease all = Check.manor("L00F90F91F92F93");
            States.putUp(all, 0, 900);
            States.putUp(all, 1, 310);
            leastOf("all that can be: nine salt are worth no more than eight", all, 116, 9989);
            States.putUp(all, 1, 10);
            leastOf("one more", all, NONE, NONE);
        });
        e.of(PART, "that of fewest GRAINS by which it is not SHORT any more;", () -> {
            leastOf("no foods", new AntLease(), 0, 0);
            AntLease x = Check.manor("L00F90F91F92F93");
            States.putUp(x, 0, 9);
            leastOf("it is not short", x, 0, 0);
            int[] due = {1, 2, 3, 18, 19, 20, 27, 28};
            int[] grains = {1, 1, 2, 9, 10, 11, 18, 19};
            int[] figures = {100, 100, 200, 900, 1900, 2900, 9900, 901};
            int put = 9;
            for (int i = 0; i < due.length; i++) {
                States.putUp(x, 0, 10 * due[i] - put);
                put = 10 * due[i];
                leastOf("due " + due[i], x, grains[i], figures[i]);
            }
            AntLease lies = Check.manor("L00F92");
            States.putUp(lies, 0, 20);
            leastOf("salt", lies, 4, 4);
            lies.leave(0, 1);
            leastOf("half a one lies there", lies, 3, 3);
            lies.leave(0, 3);
            leastOf("not short any more", lies, 0, 0);
        });
        e.of(PART, "of like ones the least (figures, FOOD by FOOD): how many GRAINS; the figures; NONE.", () -> {
            String[] texts = {"L00F90F90", "L00F90F90F90F90", "L00F91F91", "L00F90F90F93", "L00F93F90F90", "L00F93F93"};
            int[] due = {3, 12, 3, 10, 10, 20};
            int[] grains = {3, 12, 2, 10, 10, 20};
            int[] figures = {3, 39, 2, 1, 19, 2};
            for (int i = 0; i < texts.length; i++) {
                AntLease x = Check.manor(texts[i]);
                States.putUp(x, 0, 10 * due[i]);
                leastOf(texts[i] + " by " + due[i], x, grains[i], figures[i]);
            }
            AntLease none = Check.manor("L00F00");
            States.putUp(none, 0, 10);
            States.eatUp(none, 0, 10);
            leastOf("none", none, NONE, NONE);
        });
    }

    private void astray() {
        e.of(PART, "ASTRAY of a THING: how many PLACES it must be MOVED at least to be KNOWN (0: it is);"
                + " NONE: ANTS go nowhere.", () -> {
            AntLease left = Check.manor("L52T0T1T2T3T4");
            AntLease right = Check.manor("L52T5T6T7T8T9");
            int[] far = {3, 2, 1, 0, 0, 0, 0, 0, 1, 2};
            for (int thing = 0; thing < 5; thing++) {
                e.due("at " + thing, left.thing(thing, 2), far[thing]);
                e.due("at " + (thing + 5), right.thing(thing, 2), far[thing + 5]);
            }
            e.dueAll("as far as can be", 9, Check.manor("L00T9").thing(0, 2), Check.manor("L90T0").thing(0, 2));
            right.sprinkle(6);
            e.dueRow("powder in between", new long[] {0, 1, 2, 3, 4}, right.thing(0, 2), right.thing(1, 2),
                    right.thing(2, 2), right.thing(3, 2), right.thing(4, 2));
            right.sprinkle(5);
            e.dueAll("nowhere", NONE, right.thing(0, 2), right.thing(1, 2), right.thing(4, 2));
        });
    }

    private void judgedRows() {
        e.of(PART, "JUDGED: n doings (1 .. 4), told as three figures each", () -> {
            AntLease x = Check.manor("L02");
            e.dueAll("none, five", AntLease.BAD, x.judge(0, 0), x.judge(5, 0));
            e.dueAll("one to four quarters", NONE, x.judge(1, 0), x.judge(2, 0), x.judge(3, 0), x.judge(4, 0));
            e.dueRow("the last is not so", new long[] {0, 1, 2, 3}, x.judge(1, 609), x.judge(2, 609), x.judge(3, 609),
                    x.judge(4, 609));
            e.dueRow("the first is not so", new long[] {0, 0, 0, 0}, x.judge(1, 609), x.judge(2, 609000L),
                    x.judge(3, 609000000L), x.judge(4, 609000000000L));
            long figures = 1000;
            for (int n = 1; n <= 4; n++) {
                e.dueRow("figures of " + n, new long[] {0, -2, -2}, x.judge(n, figures - 1), x.judge(n, figures),
                        x.judge(n, -1));
                figures *= 1000;
            }
        });
        e.of(PART, "(0, 0, 0: A QUARTER;", () -> {
            AntLease x = Check.manor("L02F90");
            e.dueRow("goodwill is one more", new long[] {NONE, 1}, x.judge(2, 603), x.judge(2, 604));
            States.putUp(x, 0, 10);
            e.dueRow("or one less", new long[] {NONE, 1}, x.judge(2, 601), x.judge(2, 602));
            e.dueAll("other figures behind 0", 0, x.judge(1, 1), x.judge(1, 9), x.judge(1, 10), x.judge(1, 90));
        });
        e.of(PART, "the place of the first that can not be (or is not so); NONE: none.", () -> {
            AntLease x = Check.manor("L32F10T1");
            e.due("all four can be", x.judge(4, 101201302403L), NONE);
            e.dueRow("each place", new long[] {0, 1, 2, 3}, x.judge(4, 111201302403L), x.judge(4, 101211302403L),
                    x.judge(4, 101201312403L), x.judge(4, 101201302413L));
            e.due("two can not be", x.judge(4, 101111302413L), 1);
            e.due("what is not so", x.judge(4, 500602603504L), 2);
            e.dueAll("no doing begins so", 0, x.judge(1, 700), x.judge(1, 800), x.judge(1, 900));
        });
    }

    private void judgedDoings() {
        e.of(PART, "1, a FOOD, n: PUT UP;", () -> {
            AntLease x = States.fullLarder();
            e.dueRow("999", new long[] {0, NONE, NONE, 0, 0}, x.judge(1, 101), x.judge(1, 111), x.judge(1, 139),
                    x.judge(1, 130), x.judge(1, 141));
            x.eat(0, 2);
            e.dueRow("997", new long[] {NONE, 0, NONE, 2}, x.judge(1, 102), x.judge(1, 103), x.judge(2, 101101),
                    x.judge(3, 101101101));
        });
        e.of(PART, "2, a FOOD, n: LEFT;", () -> {
            AntLease x = Check.manor("L00F10F13F03");
            x.eat(0, 5);
            x.put(1, 9);
            e.dueRow("five", new long[] {0, NONE, NONE, 0, 1}, x.judge(1, 200), x.judge(1, 201), x.judge(1, 205),
                    x.judge(1, 206), x.judge(2, 203203));
            e.dueRow("nineteen of a hoard", new long[] {NONE, 0, 1}, x.judge(1, 211), x.judge(1, 212),
                    x.judge(2, 211211));
            e.dueRow("none, no such food", new long[] {0, 0}, x.judge(1, 221), x.judge(1, 231));
            e.due("put up and then left", x.judge(2, 111212), NONE);
        });
        e.of(PART, "3, a THING, a PLACE: MOVED;", () -> {
            AntLease x = Check.manor("L00T0T5T9");
            e.dueRow("the ends", new long[] {0, NONE, NONE, 0}, x.judge(1, 300), x.judge(1, 309), x.judge(1, 320),
                    x.judge(1, 329));
            e.dueRow("there, beside it, no such thing", new long[] {0, NONE, NONE, 0}, x.judge(1, 315), x.judge(1, 314),
                    x.judge(1, 316), x.judge(1, 330));
            e.due("there and back", x.judge(3, 314315315), 2);
        });
        e.of(PART, "4, 0, a PLACE: SPRINKLED;", () -> {
            AntLease x = Check.manor("L00");
            x.sprinkle(5);
            e.dueRow("places", new long[] {NONE, NONE, 0, NONE}, x.judge(1, 400), x.judge(1, 404), x.judge(1, 405),
                    x.judge(1, 409));
            e.dueRow("twice, after a quarter", new long[] {1, NONE}, x.judge(2, 400400), x.judge(2, 405));
            e.dueAll("another figure than 0", 0, x.judge(1, 410), x.judge(1, 491));
        });
    }

    private void judgedAsked() {
        e.of(PART, "5, 0, a THING: it is KNOWN;", () -> {
            AntLease x = Check.manor("L52T3T2T7T8");
            e.dueRow("known, not known, no such thing", new long[] {NONE, 0, NONE, 0, 0, 0}, x.judge(1, 500),
                    x.judge(1, 501), x.judge(1, 502), x.judge(1, 503), x.judge(1, 504), x.judge(1, 509));
            e.dueRow("after a quarter", new long[] {NONE, NONE}, x.judge(2, 501), x.judge(2, 503));
            e.due("behind powder", x.judge(3, 406500502), 2);
            e.dueAll("another figure than 0", 0, x.judge(1, 510), x.judge(1, 590));
        });
        e.of(PART, "6, 0, v: GOODWILL is v or more):", () -> {
            for (int g = 0; g <= 9; g++) {
                AntLease x = Check.manor("L0" + g);
                for (int v = 0; v <= 9; v++) {
                    e.due(g + " is " + v + " or more", x.judge(1, 600 + v), g >= v ? NONE : 0);
                }
            }
            e.dueAll("another figure than 0", 0, Check.manor("L09").judge(1, 610), Check.manor("L09").judge(1, 690));
        });
    }

    private void shareOf(String when, AntLease x, int food, long above, long below) {
        e.dueRow(when, new long[] {above, below}, x.share(food, true), x.share(food, false));
    }

    private void share() {
        e.of(PART, "SHARE of a FOOD: if FOODS on THE FLOOR come one by one, in each order as likely: by how much in the"
                + " mean WORTH of those that have come, DUE at most, is more when it has come than it was: a FRACTION.", () -> {
            AntLease x = Check.manor("L00F90F91F92F93");
            shareOf("nothing lies, nothing is due", x, 0, 0, 1);
            x.leave(0, 3);
            shareOf("nothing is due", x, 0, 0, 1);
            States.putUp(x, 3, 20);
            shareOf("less due than lies", x, 0, 2, 1);
            States.putUp(x, 3, 10);
            shareOf("as much due as lies", x, 0, 3, 1);
            States.putUp(x, 3, 20);
            shareOf("more due than lies", x, 0, 3, 1);
            shareOf("none of it lies there", x, 1, 0, 1);
            x.leave(2, 1);
            shareOf("half a one is worth none", x, 2, 0, 1);
            shareOf("and takes nothing", x, 0, 3, 1);
            x.leave(2, 3);
            x.leave(1, 2);
            // due 5; plain 3, sweet 4, salt 2: the mean of six orders
            shareOf("plain of three", x, 0, 5, 3);
            shareOf("sweet of three", x, 1, 13, 6);
            shareOf("salt of three", x, 2, 7, 6);
            x.leave(3, 1);
            shareOf("plain of four", x, 0, 13, 12);
            shareOf("sweet of four", x, 1, 17, 12);
            shareOf("salt of four", x, 2, 3, 4);
            shareOf("hoard of four", x, 3, 7, 4);
            x.quarter();
            shareOf("a quarter on", x, 3, 0, 1);
        });
    }
}
