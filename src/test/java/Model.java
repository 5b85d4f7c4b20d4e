import java.util.ArrayDeque;
import java.util.ArrayList;
import java.util.Arrays;
import java.util.Deque;
import java.util.HashMap;
import java.util.List;
import java.util.Map;
import java.util.TreeSet;

/** The document read a second time, with the whole library and the slowest ways: ModelTest compares. */
final class Model {
    private static final int UNKNOWN = -1, BAD = -2, LATE = -3, FULL = -4, NONE = -9;

    private static final class State {
        int skirting = 0;
        int goodwill = 0;
        int quarter = 0;
        int pins = 0;
        List<Integer> kinds = new ArrayList<>();
        List<Integer> larder = new ArrayList<>();
        List<Integer> floor = new ArrayList<>();
        List<Integer> putUp = new ArrayList<>();
        List<Integer> places = new ArrayList<>();
        TreeSet<Integer> powder = new TreeSet<>();

        State copy() {
            State s = new State();
            s.skirting = skirting;
            s.goodwill = goodwill;
            s.quarter = quarter;
            s.pins = pins;
            s.kinds = new ArrayList<>(kinds);
            s.larder = new ArrayList<>(larder);
            s.floor = new ArrayList<>(floor);
            s.putUp = new ArrayList<>(putUp);
            s.places = new ArrayList<>(places);
            s.powder = new TreeSet<>(powder);
            return s;
        }

        int worth(int food) {
            int grains = floor.get(food);
            return kinds.get(food) == 1 ? grains * 2 : kinds.get(food) == 2 ? grains / 2 : grains;
        }

        int due() {
            return putUp.stream().mapToInt(Integer::intValue).sum() / 10;
        }

        int lack() {
            int worth = 0;
            for (int food = 0; food < kinds.size(); food++) {
                worth += worth(food);
            }
            return worth < due() ? due() - worth : 0;
        }

        TreeSet<Integer> reach(int from, int steps) {
            TreeSet<Integer> seen = new TreeSet<>();
            for (int way = -1; way <= 1; way += 2) {
                int at = from;
                for (int step = 0; step <= steps && at >= 0 && at <= 9 && !powder.contains(at); step++) {
                    seen.add(at);
                    at += way;
                }
            }
            return seen;
        }

        TreeSet<Integer> known() {
            TreeSet<Integer> known = new TreeSet<>();
            for (int thing = 0; thing < places.size(); thing++) {
                if (reach(skirting, goodwill).contains(places.get(thing))) {
                    known.add(thing);
                }
            }
            return known;
        }

        int quarter() {
            if (lack() > 0) {
                goodwill--;
                pins += lack();
            } else {
                goodwill++;
                pins = 0;
            }
            goodwill -= powder.size();
            goodwill = goodwill < 0 ? 0 : goodwill > 9 ? 9 : goodwill;
            for (int food = 0; food < kinds.size(); food++) {
                floor.set(food, 0);
                putUp.set(food, 0);
            }
            powder.clear();
            quarter++;
            return goodwill;
        }

        int put(int food, int n) {
            if (food < 0 || food >= kinds.size()) return UNKNOWN;
            if (n < 1 || n > 9) return BAD;
            if (larder.get(food) + n > 999) return FULL;
            larder.set(food, larder.get(food) + n);
            putUp.set(food, putUp.get(food) + n);
            return larder.get(food);
        }

        int eat(int food, int n) {
            if (food < 0 || food >= kinds.size()) return UNKNOWN;
            if (n < 1 || n > 9) return BAD;
            if (larder.get(food) < n) return LATE;
            larder.set(food, larder.get(food) - n);
            return larder.get(food);
        }

        int leave(int food, int n) {
            if (food < 0 || food >= kinds.size()) return UNKNOWN;
            if (n < 1 || n > 9) return BAD;
            int grains = kinds.get(food) == 3 ? 10 * n : n;
            if (larder.get(food) < grains) return LATE;
            larder.set(food, larder.get(food) - grains);
            floor.set(food, floor.get(food) + grains);
            return floor.get(food);
        }

        int move(int thing, int place) {
            if (thing < 0 || thing >= places.size() || place < 0 || place > 9) return UNKNOWN;
            if (places.get(thing) == place) return LATE;
            int was = places.set(thing, place);
            return Math.abs(was - place);
        }

        int sprinkle(int place) {
            if (place < 0 || place > 9) return UNKNOWN;
            return powder.add(place) ? powder.size() : LATE;
        }
    }

    private final StringBuilder text = new StringBuilder();
    private State now = new State();
    private final Deque<State> acts = new ArrayDeque<>();
    private final Map<Integer, State> kept = new HashMap<>();
    private final List<int[]> said = new ArrayList<>();
    private long seed = 0;

    private static int bits(TreeSet<Integer> set) {
        int bits = 0;
        for (int i : set) {
            bits += 1 << i;
        }
        return bits;
    }

    int write(int letter) {
        if (letter < 0 || letter > 255) return BAD;
        if (text.length() == 48) return FULL;
        text.append((char) letter);
        return text.length();
    }

    int wipe() {
        int was = text.length();
        text.setLength(0);
        return was;
    }

    private static final String WHOLE = "L[0-9][0-9](F[0-9][0-3]|T[0-9])*";

    private static boolean isManor(String s) {
        return s.matches(WHOLE) && s.chars().filter(c -> c == 'F').count() <= 4
            && s.chars().filter(c -> c == 'T').count() <= 5;
    }

    /** Some text that begins so is a manor: what must come behind is at most three bytes. */
    private static boolean canGoOn(String s) {
        for (String end : new String[] {"", "0", "00", "L00"}) {
            if (isManor(s + end)) return true;
        }
        return false;
    }

    int fault() {
        String s = text.toString();
        for (int i = 0; i < s.length(); i++) {
            if (!canGoOn(s.substring(0, i + 1))) return i;
        }
        return isManor(s) ? NONE : s.length();
    }

    int manor() {
        if (fault() != NONE) return LATE;
        now = new State();
        now.skirting = text.charAt(1) - '0';
        now.goodwill = text.charAt(2) - '0';
        String parts = text.substring(3);
        while (!parts.isEmpty()) {
            if (parts.charAt(0) == 'F') {
                now.larder.add((parts.charAt(1) - '0') * 10);
                now.kinds.add(parts.charAt(2) - '0');
                now.floor.add(0);
                now.putUp.add(0);
                parts = parts.substring(3);
            } else {
                now.places.add(parts.charAt(1) - '0');
                parts = parts.substring(2);
            }
        }
        acts.clear();
        kept.clear();
        return now.kinds.size() * 10 + now.places.size();
    }

    int about(int what) {
        if (what < 0 || what > 13) return BAD;
        return new int[] {now.kinds.size(), now.places.size(), now.skirting, now.goodwill, now.quarter, now.pins,
            now.due(), now.lack(), bits(now.powder), bits(now.reach(now.skirting, now.goodwill)), bits(now.known()),
            acts.size(), said.size(), text.length()}[what];
    }

    int food(int food, int what) {
        if (food < 0 || food >= now.kinds.size()) return UNKNOWN;
        if (what < 0 || what > 4) return BAD;
        return new int[] {now.kinds.get(food), now.larder.get(food), now.floor.get(food), now.putUp.get(food),
            now.worth(food)}[what];
    }

    int thing(int thing, int what) {
        if (thing < 0 || thing >= now.places.size()) return UNKNOWN;
        if (what < 0 || what > 2) return BAD;
        if (what == 0) return now.places.get(thing);
        if (what == 1) return now.known().contains(thing) ? now.places.get(thing) : NONE;
        return now.reach(now.skirting, now.goodwill).stream().mapToInt(p -> Math.abs(p - now.places.get(thing)))
            .min().orElse(NONE);
    }

    private int act(State before, int answer) {
        if (answer >= 0) {
            acts.addLast(before);
            if (acts.size() > 14) acts.removeFirst();
        }
        return answer;
    }

    int quarter() {
        return act(now.copy(), now.quarter());
    }

    int put(int food, int n) {
        return act(now.copy(), now.put(food, n));
    }

    int eat(int food, int n) {
        return act(now.copy(), now.eat(food, n));
    }

    int leave(int food, int n) {
        return act(now.copy(), now.leave(food, n));
    }

    int move(int thing, int place) {
        return act(now.copy(), now.move(thing, place));
    }

    int sprinkle(int place) {
        return act(now.copy(), now.sprinkle(place));
    }

    int undo() {
        if (acts.isEmpty()) return LATE;
        now = acts.removeLast();
        return acts.size();
    }

    int later(int n, int what) {
        if (n < 0 || n > 20 || what < 0 || what > 2) return BAD;
        State s = now.copy();
        for (int i = 0; i < n; i++) {
            s.quarter();
        }
        return new int[] {s.goodwill, s.pins, bits(s.known())}[what];
    }

    int least(int what) {
        if (what < 0 || what > 1) return BAD;
        int foods = now.kinds.size();
        int best = NONE;
        int bestFigures = NONE;
        for (int figures = 0; figures < (int) Math.pow(10, foods); figures++) {
            String told = foods == 0 ? "" : String.format("%0" + foods + "d", figures);
            int grains = 0;
            int worth = 0;
            boolean can = true;
            for (int food = 0; food < foods; food++) {
                int more = (told.charAt(food) - '0') * (now.kinds.get(food) == 3 ? 10 : 1);
                can = can && more <= now.larder.get(food);
                grains += more;
                int lying = now.floor.get(food) + more;
                worth += now.kinds.get(food) == 1 ? lying * 2 : now.kinds.get(food) == 2 ? lying / 2 : lying;
            }
            if (can && worth >= now.due() && (best == NONE || grains < best)) {
                best = grains;
                bestFigures = figures;
            }
        }
        return what == 0 ? best : bestFigures;
    }

    int judge(int n, long row) {
        if (n < 1 || n > 4 || row < 0 || Long.toString(row).length() > 3 * n) return BAD;
        String told = String.format("%0" + 3 * n + "d", row);
        State s = now.copy();
        for (int i = 0; i < n; i++) {
            int b = told.charAt(3 * i + 1) - '0';
            int c = told.charAt(3 * i + 2) - '0';
            boolean can;
            switch (told.charAt(3 * i)) {
                case '0': can = b == 0 && c == 0; if (can) s.quarter(); break;
                case '1': can = s.put(b, c) >= 0; break;
                case '2': can = s.leave(b, c) >= 0; break;
                case '3': can = s.move(b, c) >= 0; break;
                case '4': can = b == 0 && s.sprinkle(c) >= 0; break;
                case '5': can = b == 0 && s.known().contains(c); break;
                case '6': can = b == 0 && s.goodwill >= c; break;
                default: can = false; break;
            }
            if (!can) return i;
        }
        return NONE;
    }

    private static long told(long above, long below, boolean upper) {
        long divisor = 1;
        for (long d = 1; d <= below; d++) {
            if (above % d == 0 && below % d == 0) divisor = d;
        }
        return upper ? above / divisor : below / divisor;
    }

    private static List<List<Integer>> orders(List<Integer> of) {
        List<List<Integer>> all = new ArrayList<>();
        if (of.isEmpty()) all.add(new ArrayList<>());
        for (int first : of) {
            List<Integer> rest = new ArrayList<>(of);
            rest.remove((Integer) first);
            for (List<Integer> order : orders(rest)) {
                order.add(0, first);
                all.add(order);
            }
        }
        return all;
    }

    int share(int food, boolean upper) {
        if (food < 0 || food >= now.kinds.size()) return UNKNOWN;
        List<Integer> lying = new ArrayList<>();
        for (int f = 0; f < now.kinds.size(); f++) {
            if (now.floor.get(f) > 0) lying.add(f);
        }
        long sum = 0;
        List<List<Integer>> orders = orders(lying);
        for (List<Integer> order : orders) {
            int worth = 0;
            for (int f : order) {
                int was = Math.min(worth, now.due());
                worth += now.worth(f);
                if (f == food) sum += Math.min(worth, now.due()) - was;
            }
        }
        return (int) told(sum, orders.size(), upper);
    }

    int say(int place, int knew) {
        if (place < 0 || place > 9) return UNKNOWN;
        if (knew < 0 || knew > 1) return BAD;
        if (said.size() == 6) return FULL;
        said.add(new int[] {place, knew});
        return said.size();
    }

    int unsay() {
        int was = said.size();
        said.clear();
        return was;
    }

    int lines(int what) {
        if (what < 0 || what > 1) return BAD;
        TreeSet<Integer> lines = new TreeSet<>();
        for (int s = 0; s < 10; s++) {
            for (int g = 0; g < 10; g++) {
                TreeSet<Integer> reach = now.reach(s, g);
                if (said.stream().allMatch(w -> reach.contains(w[0]) == (w[1] == 1))) lines.add(10 * s + g);
            }
        }
        return what == 0 ? lines.size() : lines.isEmpty() ? NONE : lines.first();
    }

    private int has(int one, int a, int other, int b, boolean first) {
        State s = now.copy();
        if (a > 0) s.leave(one, a);
        if (b > 0) s.leave(other, b);
        return (s.lack() == 0 ? 5 : 0) - (first ? a : b);
    }

    int rests(int one, int other, int what) {
        int foods = now.kinds.size();
        if (one < 0 || one >= foods || other < 0 || other >= foods) return UNKNOWN;
        if (one == other || what < 0 || what > 1) return BAD;
        TreeSet<Integer> rests = new TreeSet<>();
        for (int a = 0; a < 3; a++) {
            for (int b = 0; b < 3; b++) {
                int hasOne = has(one, a, other, b, true);
                int hasOther = has(one, a, other, b, false);
                boolean rest = true;
                for (int c = 0; c < 3; c++) {
                    rest = rest && has(one, c, other, b, true) <= hasOne && has(one, a, other, c, false) <= hasOther;
                }
                if (rest) rests.add(10 * a + b);
            }
        }
        return what == 0 ? rests.size() : rests.isEmpty() ? NONE : rests.first();
    }

    int stray(int m, int x, boolean upper) {
        if (m < 0 || m > 5 || x < 0 || x > 10) return BAD;
        int things = now.places.size();
        long sum = 0;
        long all = 1;
        for (int i = 0; i < things; i++) {
            all *= 10;
        }
        for (int strays = 0; strays < 1 << things; strays++) {
            long weight = 1;
            State s = now.copy();
            for (int thing = 0; thing < things; thing++) {
                boolean goes = (strays >> thing) % 2 == 1;
                weight *= goes ? x : 10 - x;
                if (goes && s.places.get(thing) < 9) s.places.set(thing, s.places.get(thing) + 1);
            }
            if (s.known().size() >= m) sum += weight;
        }
        return (int) told(sum, all, upper);
    }

    long seed(long v) {
        long was = seed;
        seed = v;
        return was;
    }

    int years(int m) {
        if (m < 1 || m > 30) return BAD;
        State s = now.copy();
        int together = 0;
        for (int i = 0; i < m; i++) {
            seed = seed * 6364136223846793005L + 1442695040888963407L;
            String binary = String.format("%64s", Long.toBinaryString(seed)).replace(' ', '0');
            int chance = (int) (Long.parseLong(binary.substring(0, 31), 2) % 32);
            if (chance <= 7) s.put(chance / 2, 9);
            else if (chance <= 15) s.leave((chance - 8) / 2, 1);
            else if (chance <= 25) s.sprinkle(chance - 16);
            else s.quarter();
            together += s.goodwill;
        }
        return together;
    }

    int keep(int slot) {
        if (slot < 0 || slot > 1) return UNKNOWN;
        kept.put(slot, now.copy());
        return now.quarter;
    }

    int again(int slot) {
        if (slot < 0 || slot > 1) return UNKNOWN;
        if (!kept.containsKey(slot)) return LATE;
        now = kept.get(slot).copy();
        acts.clear();
        return now.quarter;
    }

    @Override
    public String toString() {
        return text + " larder " + now.larder + " floor " + now.floor + " put " + now.putUp + " places " + now.places
            + " powder " + now.powder + " said " + Arrays.deepToString(said.toArray());
    }
}
