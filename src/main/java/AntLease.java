/**
 * The lease by which a tenth of what a larder puts up is left on the floor for the ants, who pay in
 * saying where things are. ../shared/DOC.md tells what each call answers; words in capitals are its.
 */
public final class AntLease {
    public static final int UNKNOWN = -1, BAD = -2, LATE = -3, FULL = -4, NONE = -9;

    private static final int PLACES = 10;
    private static final int MOST_FOODS = 4;
    private static final int MOST_THINGS = 5;
    private static final int MOST_GOODWILL = 9;
    private static final int MOST_FIGURE = 9;
    private static final int MOST_QUARTERS = 20;
    private static final int MOST_DOINGS = 4;
    private static final int MOST_YEARS = 30;
    private static final long SEED_TIMES = 6364136223846793005L;
    private static final long SEED_PLUS = 1442695040888963407L;

    private final Text text = new Text();
    private final House now = new House();
    /** For all that is only tried: what is asked about later quarters must not touch the manor. */
    private final House trial = new House();
    private final Past past = new Past();
    private final Slots slots = new Slots();
    private final Said said = new Said();
    private final Least fewest = new Least();
    private final int[] doings = new int[MOST_DOINGS];
    private final int[] chances = new int[MOST_THINGS + 1];
    private long theSeed = 0;

    public AntLease() {
    }

    // ---- the manor

    public int write(int letter) {
        return text.add(letter);
    }

    public int wipe() {
        return text.empty();
    }

    public int fault() {
        return text.firstFault();
    }

    public int manor() {
        if (text.firstFault() != NONE) {
            return LATE;
        }
        now.makeFrom(text);
        past.forget();
        slots.forget();
        return 10 * now.foods() + now.things();
    }

    public int about(int what) {
        switch (what) {
            case 0: return now.foods();
            case 1: return now.things();
            case 2: return now.skirting();
            case 3: return now.goodwill();
            case 4: return now.quartersGone();
            case 5: return now.pins();
            case 6: return now.due();
            case 7: return now.shortBy();
            case 8: return now.powder();
            case 9: return now.reach();
            case 10: return now.known();
            case 11: return past.size();
            case 12: return said.size();
            case 13: return text.length();
            default: return BAD;
        }
    }

    public int food(int food, int what) {
        if (!now.hasFood(food)) {
            return UNKNOWN;
        }
        switch (what) {
            case 0: return now.kind(food);
            case 1: return now.inLarder(food);
            case 2: return now.onFloor(food);
            case 3: return now.newlyPut(food);
            case 4: return now.worth(food);
            default: return BAD;
        }
    }

    public int thing(int thing, int what) {
        if (!now.hasThing(thing)) {
            return UNKNOWN;
        }
        switch (what) {
            case 0: return now.placeOf(thing);
            case 1: return has(now.reach(), now.placeOf(thing)) ? now.placeOf(thing) : NONE;
            case 2: return now.astray(thing);
            default: return BAD;
        }
    }

    // ---- acts

    public int quarter() {
        past.note(now);
        return past.settle(now.endQuarter());
    }

    public int put(int food, int n) {
        past.note(now);
        return past.settle(now.putUp(food, n));
    }

    public int eat(int food, int n) {
        past.note(now);
        return past.settle(now.eatUp(food, n));
    }

    public int leave(int food, int n) {
        past.note(now);
        return past.settle(now.leaveOut(food, n));
    }

    public int move(int thing, int place) {
        past.note(now);
        return past.settle(now.carry(thing, place));
    }

    public int sprinkle(int place) {
        past.note(now);
        return past.settle(now.strew(place));
    }

    public int undo() {
        return past.takeBack(now);
    }

    // ---- quarters to come

    public int later(int n, int what) {
        if (n < 0 || n > MOST_QUARTERS || what < 0 || what > 2) {
            return BAD;
        }
        trial.copyOf(now);
        for (int i = 0; i < n; i++) {
            trial.endQuarter();
        }
        switch (what) {
            case 0: return trial.goodwill();
            case 1: return trial.pins();
            default: return trial.known();
        }
    }

    public int least(int what) {
        if (what != 0 && what != 1) {
            return BAD;
        }
        fewest.find(now);
        return what == 0 ? fewest.grains() : fewest.figures();
    }

    public int judge(int n, long row) {
        if (n < 1 || n > MOST_DOINGS || row < 0) {
            return BAD;
        }
        // the row is told from its upper end, so it is taken apart from behind
        long rest = row;
        for (int i = n - 1; i >= 0; i--) {
            doings[i] = (int) (rest % 1000);
            rest /= 1000;
        }
        if (rest != 0) {
            return BAD;
        }
        trial.copyOf(now);
        for (int i = 0; i < n; i++) {
            if (!canBe(trial, doings[i])) {
                return i;
            }
        }
        return NONE;
    }

    public int share(int food, boolean upper) {
        if (!now.hasFood(food)) {
            return UNKNOWN;
        }
        // Foods that aren't on the floor add nothing wherever they come, so they may come as well:
        // the mean is the same.
        int foods = now.foods();
        int sum = 0;
        for (int before = 0; before < 1 << foods; before++) {
            if ((before >> food & 1) == 0) {
                int come = Integer.bitCount(before);
                int orders = factorial(come) * factorial(foods - 1 - come);
                int without = worthOfThose(before);
                int more = Math.min(now.due(), without + now.worth(food)) - Math.min(now.due(), without);
                sum += orders * more;
            }
        }
        return told(sum, factorial(foods), upper);
    }

    // ---- said

    public int say(int place, int knew) {
        return said.add(place, knew);
    }

    public int unsay() {
        return said.forget();
    }

    public int lines(int what) {
        switch (what) {
            case 0: return said.howManyLines(now.powder());
            case 1: return said.firstLine(now.powder());
            default: return BAD;
        }
    }

    // ---- rests, chances

    public int rests(int one, int other, int what) {
        if (!now.hasFood(one) || !now.hasFood(other)) {
            return UNKNOWN;
        }
        if (one == other || what < 0 || what > 1) {
            return BAD;
        }
        int kept = pairsThatKeep(one, other);
        return what == 0 ? Rests.howMany(kept) : Rests.first(kept);
    }

    public int stray(int m, int x, boolean upper) {
        if (m < 0 || m > MOST_THINGS || x < 0 || x > 10) {
            return BAD;
        }
        weighKnown(x);
        int sum = 0;
        for (int k = m; k <= MOST_THINGS; k++) {
            sum += chances[k];
        }
        int all = 0;
        for (int k = 0; k <= MOST_THINGS; k++) {
            all += chances[k];
        }
        return told(sum, all, upper);
    }

    public long seed(long v) {
        long was = theSeed;
        theSeed = v;
        return was;
    }

    public int years(int m) {
        if (m < 1 || m > MOST_YEARS) {
            return BAD;
        }
        trial.copyOf(now);
        int together = 0;
        for (int i = 0; i < m; i++) {
            theSeed = theSeed * SEED_TIMES + SEED_PLUS;
            doByChance(trial, (int) (theSeed >>> 33) % 32);
            together += trial.goodwill();
        }
        return together;
    }

    // ---- slots

    public int keep(int slot) {
        return slots.take(slot, now);
    }

    public int again(int slot) {
        int answer = slots.giveBack(slot, now);
        if (answer >= 0) {
            past.forget();
        }
        return answer;
    }

    // ---- what the calls above are made of

    /** Does a told doing in a house, or answers that it can not be (or is not so). */
    private static boolean canBe(House house, int doing) {
        int second = doing / 10 % 10;
        int third = doing % 10;
        switch (doing / 100) {
            case 0: return second == 0 && third == 0 && house.endQuarter() >= 0;
            case 1: return house.putUp(second, third) >= 0;
            case 2: return house.leaveOut(second, third) >= 0;
            case 3: return house.carry(second, third) >= 0;
            case 4: return second == 0 && house.strew(third) >= 0;
            case 5: return second == 0 && house.hasThing(third) && has(house.known(), third);
            case 6: return second == 0 && house.goodwill() >= third;
            default: return false;
        }
    }

    /** What can't be is refused by the house, and then nothing is changed. */
    private static void doByChance(House house, int chance) {
        if (chance < 8) {
            house.putUp(chance / 2, 9);
        } else if (chance < 16) {
            house.leaveOut((chance - 8) / 2, 1);
        } else if (chance < 26) {
            house.strew(chance - 16);
        } else {
            house.endQuarter();
        }
    }

    private int worthOfThose(int foodBits) {
        int sum = 0;
        for (int food = 0; food < now.foods(); food++) {
            if ((foodBits >> food & 1) != 0) {
                sum += now.worth(food);
            }
        }
        return sum;
    }

    /** The pairs of choices (bits) by which it is not SHORT. */
    private int pairsThatKeep(int one, int other) {
        int bits = 0;
        for (int a = 0; a < Rests.CHOICES; a++) {
            for (int b = 0; b < Rests.CHOICES; b++) {
                trial.copyOf(now);
                // a choice of none, or of more than there are, is refused, and then nothing is left
                trial.leaveOut(one, a);
                trial.leaveOut(other, b);
                if (trial.shortBy() == 0) {
                    bits |= Rests.bit(a, b);
                }
            }
        }
        return bits;
    }

    /** Makes chances[k] the weight of just k THINGS being KNOWN; a THING more makes all ten times. */
    private void weighKnown(int x) {
        for (int k = 0; k <= MOST_THINGS; k++) {
            chances[k] = k == 0 ? 1 : 0;
        }
        int reach = now.reach();
        for (int thing = 0; thing < now.things(); thing++) {
            int place = now.placeOf(thing);
            int right = Math.min(place + 1, PLACES - 1);
            int tenths = (has(reach, place) ? 10 - x : 0) + (has(reach, right) ? x : 0);
            for (int k = MOST_THINGS; k > 0; k--) {
                chances[k] = chances[k] * (10 - tenths) + chances[k - 1] * tenths;
            }
            chances[0] *= 10 - tenths;
        }
    }

    private static boolean isPlace(int place) {
        return place >= 0 && place < PLACES;
    }

    /** Whether a PLACE, or a THING, is among the bits. */
    private static boolean has(int bits, int which) {
        return isPlace(which) && (bits >> which & 1) != 0;
    }

    private static int factorial(int n) {
        int product = 1;
        for (int i = 2; i <= n; i++) {
            product *= i;
        }
        return product;
    }

    /** The upper or lower number of a FRACTION in least terms. */
    private static int told(int above, int below, boolean upper) {
        int divisor = above;
        int rest = below;
        // no two ints need more steps than this
        for (int step = 0; step < 64 && rest > 0; step++) {
            int next = divisor % rest;
            divisor = rest;
            rest = next;
        }
        if (divisor <= 0) {
            return 0;
        }
        return upper ? above / divisor : below / divisor;
    }

    /** THE TEXT, and what is wrong with it. */
    private static final class Text {
        private static final int MOST = 48;
        // what the next byte must be
        private static final int HEAD = 0, SKIRTING = 1, GOODWILL = 2, PART = 3, GRAINS = 4, KIND = 5, PLACE = 6;

        private final int[] bytes = new int[MOST];
        private int length = 0;

        Text() {
        }

        int length() {
            return length;
        }

        int add(int letter) {
            if (letter < 0 || letter > 255) {
                return BAD;
            }
            if (length >= MOST) {
                return FULL;
            }
            bytes[length] = letter;
            length++;
            return length;
        }

        int empty() {
            int was = length;
            length = 0;
            return was;
        }

        int byteAt(int at) {
            return at >= 0 && at < length ? bytes[at] : 0;
        }

        int figureAt(int at) {
            return byteAt(at) - '0';
        }

        int firstFault() {
            int wanted = HEAD;
            int foods = 0;
            int things = 0;
            for (int at = 0; at < length; at++) {
                int letter = bytes[at];
                if (!fits(letter, wanted)) {
                    return at;
                }
                if (wanted == PART) {
                    foods += letter == 'F' ? 1 : 0;
                    things += letter == 'T' ? 1 : 0;
                }
                if (foods > MOST_FOODS || things > MOST_THINGS) {
                    return at;
                }
                wanted = wantedAfter(wanted, letter);
            }
            return wanted == PART ? NONE : length;
        }

        private static boolean fits(int letter, int wanted) {
            switch (wanted) {
                case HEAD: return letter == 'L';
                case PART: return letter == 'F' || letter == 'T';
                case KIND: return letter >= '0' && letter <= '3';
                default: return letter >= '0' && letter <= '9';
            }
        }

        private static int wantedAfter(int wanted, int letter) {
            switch (wanted) {
                case HEAD: return SKIRTING;
                case SKIRTING: return GOODWILL;
                case PART: return letter == 'F' ? GRAINS : PLACE;
                case GRAINS: return KIND;
                default: return PART;
            }
        }
    }

    /** THE MANOR as it stands, one row of numbers: so it is tried, kept and undone by copying. */
    private static final class House {
        static final int CELLS = 28;
        private static final int KIND = 0, LARDER = 4, FLOOR = 8, PUT = 12, PLACE = 16;
        private static final int FOODS = 21, THINGS = 22, SKIRTING = 23;
        private static final int GOODWILL = 24, PINS = 25, POWDER = 26, QUARTER = 27;
        private static final int SWEET = 1, SALT = 2, HOARD = 3;
        private static final int MOST_GRAINS = 999;

        private final int[] cells = new int[CELLS];

        House() {
        }

        private int cell(int at) {
            return at >= 0 && at < CELLS ? cells[at] : 0;
        }

        private void set(int at, int value) {
            if (at >= 0 && at < CELLS) {
                cells[at] = value;
            }
        }

        private void add(int at, int more) {
            set(at, cell(at) + more);
        }

        // -- copying

        void copyOf(House other) {
            for (int at = 0; at < CELLS; at++) {
                cells[at] = other.cells[at];
            }
        }

        void storeIn(int[] rows, int row) {
            if (row >= 0 && row < rows.length / CELLS) {
                System.arraycopy(cells, 0, rows, row * CELLS, CELLS);
            }
        }

        void fetchFrom(int[] rows, int row) {
            if (row >= 0 && row < rows.length / CELLS) {
                System.arraycopy(rows, row * CELLS, cells, 0, CELLS);
            }
        }

        /** The text must have no FAULT. */
        void makeFrom(Text text) {
            for (int at = 0; at < CELLS; at++) {
                cells[at] = 0;
            }
            set(SKIRTING, text.figureAt(1));
            set(GOODWILL, text.figureAt(2));
            for (int at = 3; at < text.length(); at++) {
                if (text.byteAt(at) == 'F') {
                    set(LARDER + foods(), 10 * text.figureAt(at + 1));
                    set(KIND + foods(), text.figureAt(at + 2));
                    add(FOODS, 1);
                } else if (text.byteAt(at) == 'T') {
                    set(PLACE + things(), text.figureAt(at + 1));
                    add(THINGS, 1);
                }
            }
        }

        // -- what there is

        int foods() {
            return cells[FOODS];
        }

        int things() {
            return cells[THINGS];
        }

        int skirting() {
            return cells[SKIRTING];
        }

        int goodwill() {
            return cells[GOODWILL];
        }

        int pins() {
            return cells[PINS];
        }

        int powder() {
            return cells[POWDER];
        }

        int quartersGone() {
            return cells[QUARTER];
        }

        boolean hasFood(int food) {
            return food >= 0 && food < foods();
        }

        boolean hasThing(int thing) {
            return thing >= 0 && thing < things();
        }

        int kind(int food) {
            return cell(KIND + food);
        }

        int inLarder(int food) {
            return cell(LARDER + food);
        }

        int onFloor(int food) {
            return cell(FLOOR + food);
        }

        int newlyPut(int food) {
            return cell(PUT + food);
        }

        int placeOf(int thing) {
            return cell(PLACE + thing);
        }

        int worth(int food) {
            return worthWith(food, 0);
        }

        /** WORTH of a FOOD, if more GRAINS of it lay on THE FLOOR. */
        int worthWith(int food, int more) {
            int grains = cell(FLOOR + food) + more;
            switch (cell(KIND + food)) {
                case SWEET: return 2 * grains;
                case SALT: return grains / 2;
                default: return grains;
            }
        }

        /** How many GRAINS are LEFT at once at least: hoards are broken by whole tens alone. */
        int grainsAtOnce(int food) {
            return kind(food) == HOARD ? 10 : 1;
        }

        int due() {
            int sum = 0;
            for (int food = 0; food < foods(); food++) {
                sum += newlyPut(food);
            }
            return sum / 10;
        }

        int shortBy() {
            int lack = due();
            for (int food = 0; food < foods(); food++) {
                lack -= worth(food);
            }
            return Math.max(0, lack);
        }

        // -- ants

        int reach() {
            return reachOf(skirting(), goodwill(), powder());
        }

        static int reachOf(int skirting, int goodwill, int powder) {
            if (has(powder, skirting)) {
                return 0;
            }
            int bits = 1 << skirting;
            for (int p = skirting - 1; p >= 0 && skirting - p <= goodwill && !has(powder, p); p--) {
                bits |= 1 << p;
            }
            for (int p = skirting + 1; p < PLACES && p - skirting <= goodwill && !has(powder, p); p++) {
                bits |= 1 << p;
            }
            return bits;
        }

        int known() {
            int reach = reach();
            int bits = 0;
            for (int thing = 0; thing < things(); thing++) {
                if (has(reach, placeOf(thing))) {
                    bits |= 1 << thing;
                }
            }
            return bits;
        }

        int astray(int thing) {
            int reach = reach();
            int place = placeOf(thing);
            for (int far = 0; far < PLACES; far++) {
                if (has(reach, place - far) || has(reach, place + far)) {
                    return far;
                }
            }
            return NONE;
        }

        // -- doings: what is refused (less than 0) changes nothing

        int endQuarter() {
            int lack = shortBy();
            int goodwill = goodwill() + (lack > 0 ? -1 : 1) - Integer.bitCount(powder());
            set(GOODWILL, Math.max(0, Math.min(MOST_GOODWILL, goodwill)));
            set(PINS, lack > 0 ? pins() + lack : 0);
            for (int food = 0; food < foods(); food++) {
                set(FLOOR + food, 0);
                set(PUT + food, 0);
            }
            set(POWDER, 0);
            add(QUARTER, 1);
            return goodwill();
        }

        /** What is wrong with the FOOD or n, whatever is to be done with them; 0: nothing. */
        private int refusal(int food, int n) {
            if (!hasFood(food)) {
                return UNKNOWN;
            }
            return n < 1 || n > MOST_FIGURE ? BAD : 0;
        }

        int putUp(int food, int n) {
            if (refusal(food, n) < 0) {
                return refusal(food, n);
            }
            if (inLarder(food) + n > MOST_GRAINS) {
                return FULL;
            }
            add(LARDER + food, n);
            add(PUT + food, n);
            return inLarder(food);
        }

        int eatUp(int food, int n) {
            if (refusal(food, n) < 0) {
                return refusal(food, n);
            }
            if (inLarder(food) < n) {
                return LATE;
            }
            add(LARDER + food, -n);
            return inLarder(food);
        }

        int leaveOut(int food, int n) {
            if (refusal(food, n) < 0) {
                return refusal(food, n);
            }
            int grains = n * grainsAtOnce(food);
            if (inLarder(food) < grains) {
                return LATE;
            }
            add(LARDER + food, -grains);
            add(FLOOR + food, grains);
            return onFloor(food);
        }

        int carry(int thing, int place) {
            if (!hasThing(thing) || !isPlace(place)) {
                return UNKNOWN;
            }
            int far = Math.abs(place - placeOf(thing));
            if (far == 0) {
                return LATE;
            }
            set(PLACE + thing, place);
            return far;
        }

        int strew(int place) {
            if (!isPlace(place)) {
                return UNKNOWN;
            }
            if (has(powder(), place)) {
                return LATE;
            }
            set(POWDER, powder() | 1 << place);
            return Integer.bitCount(powder());
        }
    }

    /** ACTS: how the house was before each of them. */
    private static final class Past {
        private static final int MOST = 14;
        // one row more than ACTS: the one noted may still be refused, and then none is forgotten
        private static final int ROWS = MOST + 1;

        private final int[] rows = new int[ROWS * House.CELLS];
        private int first = 0;
        private int size = 0;

        Past() {
        }

        int size() {
            return size;
        }

        void forget() {
            size = 0;
        }

        private int next() {
            return (first + size) % ROWS;
        }

        /** Notes how the house is before an ACT that may be refused. */
        void note(House house) {
            house.storeIn(rows, next());
        }

        /** The ACT has answered: what was refused is no ACT. */
        int settle(int answer) {
            if (answer >= 0 && size < MOST) {
                size++;
            } else if (answer >= 0) {
                first = (first + 1) % ROWS;
            }
            return answer;
        }

        int takeBack(House house) {
            if (size == 0) {
                return LATE;
            }
            size--;
            house.fetchFrom(rows, next());
            return size;
        }
    }

    private static final class Slots {
        private static final int SLOTS = 2;

        private final int[] rows = new int[SLOTS * House.CELLS];
        private int taken = 0;

        Slots() {
        }

        void forget() {
            taken = 0;
        }

        private static boolean isSlot(int slot) {
            return slot >= 0 && slot < SLOTS;
        }

        int take(int slot, House house) {
            if (!isSlot(slot)) {
                return UNKNOWN;
            }
            house.storeIn(rows, slot);
            taken |= 1 << slot;
            return house.quartersGone();
        }

        int giveBack(int slot, House house) {
            if (!isSlot(slot)) {
                return UNKNOWN;
            }
            if ((taken >> slot & 1) == 0) {
                return LATE;
            }
            house.fetchFrom(rows, slot);
            return house.quartersGone();
        }
    }

    /** LEAST: the best way that was found. */
    private static final class Least {
        private int grains = NONE;
        private int figures = NONE;

        Least() {
        }

        int grains() {
            return grains;
        }

        int figures() {
            return figures;
        }

        void find(House house) {
            grains = NONE;
            figures = NONE;
            tryFood(this, house, 0, house.shortBy(), 0, 0);
        }

        /** Ways come by rising figures, so of like ones the first stays. */
        private static void tryFood(Least best, House house, int food, int lack, int grains, int figures) {
            if (food >= house.foods() || food >= MOST_FOODS) {
                if (lack <= 0) {
                    best.grains = grains;
                    best.figures = figures;
                }
                return;
            }
            for (int figure = 0; figure <= MOST_FIGURE; figure++) {
                int more = figure * house.grainsAtOnce(food);
                boolean tooMany = best.grains != NONE && grains + more >= best.grains;
                if (tooMany || more > house.inLarder(food)) {
                    break;
                }
                int gain = house.worthWith(food, more) - house.worth(food);
                tryFood(best, house, food + 1, lack - gain, grains + more, 10 * figures + figure);
            }
        }
    }

    /** SAID: only which PLACES were told as known, which as not, and how often, is ever asked. */
    private static final class Said {
        private static final int MOST = 6;

        private int size = 0;
        private int knew = 0;
        private int knewNot = 0;

        Said() {
        }

        int size() {
            return size;
        }

        int add(int place, int knewIt) {
            if (!isPlace(place)) {
                return UNKNOWN;
            }
            if (knewIt != 0 && knewIt != 1) {
                return BAD;
            }
            if (size >= MOST) {
                return FULL;
            }
            if (knewIt == 1) {
                knew |= 1 << place;
            } else {
                knewNot |= 1 << place;
            }
            size++;
            return size;
        }

        int forget() {
            int was = size;
            size = 0;
            knew = 0;
            knewNot = 0;
            return was;
        }

        /** A line is ten times THE SKIRTING, and GOODWILL. */
        private boolean isSo(int line, int powder) {
            int reach = House.reachOf(line / 10, line % 10, powder);
            return (reach & knew) == knew && (reach & knewNot) == 0;
        }

        int howManyLines(int powder) {
            int count = 0;
            for (int line = 0; line < 100; line++) {
                if (isSo(line, powder)) {
                    count++;
                }
            }
            return count;
        }

        int firstLine(int powder) {
            for (int line = 0; line < 100; line++) {
                if (isSo(line, powder)) {
                    return line;
                }
            }
            return NONE;
        }
    }

    /** RESTS, by the pairs of choices (bits) by which it is not SHORT. */
    private static final class Rests {
        static final int CHOICES = 3;

        private Rests() {
        }

        static int bit(int a, int b) {
            return 1 << (CHOICES * a + b);
        }

        static int howMany(int kept) {
            int count = 0;
            for (int a = 0; a < CHOICES; a++) {
                for (int b = 0; b < CHOICES; b++) {
                    if (isRest(kept, a, b)) {
                        count++;
                    }
                }
            }
            return count;
        }

        static int first(int kept) {
            for (int a = 0; a < CHOICES; a++) {
                for (int b = 0; b < CHOICES; b++) {
                    if (isRest(kept, a, b)) {
                        return 10 * a + b;
                    }
                }
            }
            return NONE;
        }

        private static boolean isRest(int kept, int a, int b) {
            for (int c = 0; c < CHOICES; c++) {
                if (gain(kept, bit(c, b), c) > gain(kept, bit(a, b), a)
                        || gain(kept, bit(a, c), c) > gain(kept, bit(a, b), b)) {
                    return false;
                }
            }
            return true;
        }

        private static int gain(int kept, int pair, int chosen) {
            return ((kept & pair) != 0 ? 5 : 0) - chosen;
        }
    }
}
