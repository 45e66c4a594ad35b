import java.util.ArrayDeque;
import java.util.ArrayList;
import java.util.Arrays;
import java.util.List;
import java.util.regex.Matcher;
import java.util.regex.Pattern;

/** The document once more, told in another way: whole states are copied, texts are matched by a pattern. */
final class Model {
    private static final class State {
        // Each: three sides as they were told, weight, zone, corners, way.
        List<int[]> parcels = new ArrayList<>();
        int[] prices = {5, 10, 15, 20, 25, 30, 35, 40, 45, 50, 55, 60};
        int[] factors = {1, 2, 3, 4};
        int[] settings = {5, 150, 2, 10};
        // Takings, sent, won, lost, refused.
        int[] books = new int[5];

        State copy() {
            State copy = new State();
            for (int[] parcel : parcels) {
                copy.parcels.add(parcel.clone());
            }
            copy.prices = prices.clone();
            copy.factors = factors.clone();
            copy.settings = settings.clone();
            copy.books = books.clone();
            return copy;
        }
    }

    private static final int[][] RANGES = {{0, 20}, {50, 300}, {0, 20}, {0, 50}};
    private static final String SIDE = "([1-9]|[1-5][0-9]|60)";
    private static final String ONE = SIDE + "x" + SIDE + "x" + SIDE + "\\*([1-9][0-9]?)z([0-3])([rcd])";
    private static final Pattern PARCEL = Pattern.compile(ONE);
    private static final Pattern PARCELS = Pattern.compile(ONE + "(;" + ONE + ")*");

    private State now = new State();
    private final State[] slots = new State[2];
    private final ArrayDeque<State> saved = new ArrayDeque<>();
    private final StringBuilder buffer = new StringBuilder();

    private static void argument(boolean fits) {
        if (!fits) {
            throw new IllegalArgumentException();
        }
    }

    private static void state(boolean fits) {
        if (!fits) {
            throw new IllegalStateException();
        }
    }

    private static void index(int index, int size) {
        if (index < 0 || index >= size) {
            throw new IndexOutOfBoundsException();
        }
    }

    private static boolean in(int value, int least, int most) {
        return least <= value && value <= most;
    }

    private int[] at(int parcel) {
        index(parcel, now.parcels.size());
        return now.parcels.get(parcel);
    }

    private void save() {
        saved.addLast(now.copy());
        while (saved.size() > 6) {
            saved.removeFirst();
        }
    }

    private boolean admit(int... parcel) {
        if (now.parcels.size() == 7) {
            now.books[4]++;
            return false;
        }
        now.parcels.add(parcel);
        return true;
    }

    int bring(int side, int other, int third, int weight, int zone) {
        argument(in(side, 1, 60));
        argument(in(other, 1, 60));
        argument(in(third, 1, 60));
        argument(in(weight, 1, 99));
        argument(in(zone, 0, 3));
        save();
        return admit(side, other, third, weight, zone, 0, 0) ? now.parcels.size() - 1 : -1;
    }

    int change(int parcel, int what, int value) {
        int[] changed = at(parcel);
        argument(what == 0 && in(value, 0, 2) || what == 1 && in(value, 0, 8));
        save();
        int place = what == 0 ? 6 : 5;
        int before = changed[place];
        changed[place] = value;
        return before;
    }

    int send(int parcel) {
        int[] sent = at(parcel);
        save();
        int reason = reason(sent, sent[6]);
        if (reason != 0) {
            now.books[4]++;
            return reason;
        }
        return 10 + gone(parcel, string(sent, sent[6]));
    }

    int dispute(int parcel, int length) {
        int[] disputed = at(parcel);
        argument(in(length, 1, 999));
        save();
        int reason = reason(disputed, disputed[6]);
        if (reason != 0) {
            now.books[4]++;
            return reason;
        }
        int needed = string(disputed, disputed[6]);
        if (!in(length, needed - now.settings[3], needed + now.settings[3])) {
            now.books[3]++;
            return 4;
        }
        now.books[2]++;
        return 10 + gone(parcel, length);
    }

    private int gone(int parcel, int length) {
        int postage = postage(now.parcels.get(parcel), length);
        now.books[0] += postage;
        now.books[1]++;
        now.parcels.remove(parcel);
        return postage;
    }

    int takeBack(int parcel) {
        at(parcel);
        save();
        now.parcels.remove(parcel);
        return now.parcels.size();
    }

    private int put(int[] row, int place, int value, int least, int most) {
        index(place, row.length);
        argument(in(value, least, most));
        save();
        int before = row[place];
        row[place] = value;
        return before;
    }

    int price(int band, int price) {
        return put(now.prices, band, price, 0, 99);
    }

    int zone(int zone, int factor) {
        return put(now.factors, zone, factor, 1, 9);
    }

    int set(int setting, int value) {
        index(setting, 4);
        return put(now.settings, setting, value, RANGES[setting][0], RANGES[setting][1]);
    }

    int append(int code) {
        argument(in(code, 33, 126));
        state(buffer.length() < 60);
        buffer.append((char) code);
        return buffer.length();
    }

    int clearBuffer() {
        int before = buffer.length();
        buffer.setLength(0);
        return before;
    }

    int firstError() {
        for (int end = 1; end <= buffer.length(); end++) {
            Matcher matcher = PARCELS.matcher(buffer.substring(0, end));
            if (!matcher.matches() && !matcher.hitEnd()) {
                return end - 1;
            }
        }
        return buffer.length();
    }

    int run() {
        argument(PARCELS.matcher(buffer).matches());
        save();
        int come = 0;
        Matcher each = PARCEL.matcher(buffer);
        while (each.find()) {
            int[] told = new int[7];
            for (int i = 0; i < 5; i++) {
                told[i] = Integer.parseInt(each.group(i + 1));
            }
            told[6] = "rcd".indexOf(each.group(6));
            if (!admit(told)) {
                break;
            }
            come++;
        }
        buffer.setLength(0);
        return come;
    }

    int keep(int slot) {
        argument(in(slot, 0, 1));
        slots[slot] = now.copy();
        return now.books[0];
    }

    int goBack(int slot) {
        argument(in(slot, 0, 1));
        state(slots[slot] != null);
        save();
        now = slots[slot].copy();
        return now.books[0];
    }

    int undo() {
        state(!saved.isEmpty());
        now = saved.removeLast();
        return saved.size();
    }

    private static int[] sorted(int[] parcel) {
        int[] sides = Arrays.copyOf(parcel, 3);
        Arrays.sort(sides);
        return new int[] {sides[2], sides[1], sides[0]};
    }

    private static int girth(int[] parcel) {
        int[] s = sorted(parcel);
        return s[0] + 2 * s[1] + 2 * s[2];
    }

    private int string(int[] parcel, int way) {
        int[] s = sorted(parcel);
        int[][] times = {{0, 2, 2}, {2, 2, 4}, {4, 2, 6}};
        int length = (1 + way) * now.settings[0];
        for (int i = 0; i < 3; i++) {
            length += times[way][i] * s[i];
        }
        return length;
    }

    private int rateOf(int length) {
        int greatest = 0;
        for (int band = 0; band < 12; band++) {
            // A band is reached from its first length on.
            if (length > 50 * band && now.prices[band] > greatest) {
                greatest = now.prices[band];
            }
        }
        return greatest;
    }

    private int postage(int[] parcel, int length) {
        int base = rateOf(length) * now.factors[parcel[4]];
        if (girth(parcel) > now.settings[1]) {
            base = Math.floorDiv(3 * base, 2);
        }
        return base + parcel[5] * now.settings[2];
    }

    private int ownPostage(int[] parcel) {
        return postage(parcel, string(parcel, parcel[6]));
    }

    private int reason(int[] parcel, int way) {
        int[] most = {30, 60, Integer.MAX_VALUE};
        if (parcel[3] > most[way]) {
            return 1;
        }
        if (girth(parcel) > 2 * now.settings[1]) {
            return 2;
        }
        return parcel[5] != 0 && way == 0 ? 3 : 0;
    }

    private boolean taken(int[] parcel) {
        return reason(parcel, parcel[6]) == 0;
    }

    int parcelOf(int parcel, int what) {
        int[] told = at(parcel);
        argument(in(what, 0, 10));
        int[] s = sorted(told);
        return new int[] {s[0], s[1], s[2], told[3], told[4], told[5], told[6], girth(told),
            string(told, told[6]), ownPostage(told), reason(told, told[6])}[what];
    }

    int rate(int length, int what) {
        argument(in(length, 1, 999));
        argument(in(what, 0, 1));
        return rateOf(length);
    }

    int count(int what) {
        argument(in(what, 0, 9));
        if (what == 9) {
            return saved.size();
        }
        if (what == 8) {
            int cheaper = 0;
            for (int band = 0; band < 12; band++) {
                int price = now.prices[band];
                if (Arrays.stream(now.prices, 0, band).anyMatch(below -> below > price)) {
                    cheaper++;
                }
            }
            return cheaper;
        }
        if (what >= 3) {
            return now.books[what - 3];
        }
        int number = 0;
        for (int[] parcel : now.parcels) {
            boolean odd = girth(parcel) > now.settings[1];
            number += what == 0 || what == 1 && taken(parcel) || what == 2 && odd ? 1 : 0;
        }
        return number;
    }

    int setting(int setting) {
        index(setting, 4);
        return now.settings[setting];
    }

    int cheapestWay(int parcel) {
        int[] told = at(parcel);
        int best = -1;
        for (int way = 2; way >= 0; way--) {
            if (reason(told, way) == 0
                    && (best < 0 || postage(told, string(told, way)) <= postage(told, string(told, best)))) {
                best = way;
            }
        }
        return best;
    }

    int ifBundled(int parcel, int other) {
        int[] one = at(parcel);
        int[] two = at(other);
        argument(parcel != other);
        return bundled(one, two);
    }

    private int bundled(int[] one, int[] two) {
        if (one[4] != two[4] || !taken(one) || !taken(two) || one[3] + two[3] > 99) {
            return -1;
        }
        int[] s = sorted(one);
        int[] t = sorted(two);
        int[] bundle = {Math.max(s[0], t[0]), Math.max(s[1], t[1]), s[2] + t[2],
            one[3] + two[3], one[4], one[5] + two[5], Math.max(one[6], two[6])};
        return taken(bundle) ? ownPostage(bundle) : -1;
    }

    int cheapest(int what) {
        argument(in(what, 0, 1));
        return least(new ArrayList<>(now.parcels));
    }

    private int least(List<int[]> left) {
        if (left.isEmpty()) {
            return 0;
        }
        int[] last = left.remove(left.size() - 1);
        int best = (taken(last) ? ownPostage(last) : 0) + least(new ArrayList<>(left));
        for (int i = 0; i < left.size(); i++) {
            int together = bundled(last, left.get(i));
            if (together >= 0) {
                List<int[]> others = new ArrayList<>(left);
                others.remove(i);
                best = Math.min(best, together + least(others));
            }
        }
        return best;
    }

    int dearest() {
        int best = -1;
        for (int i = now.parcels.size() - 1; i >= 0; i--) {
            int[] parcel = now.parcels.get(i);
            if (taken(parcel) && (best < 0 || ownPostage(parcel) >= ownPostage(now.parcels.get(best)))) {
                best = i;
            }
        }
        return best;
    }

    double savedShare() {
        int all = now.parcels.stream().filter(this::taken).mapToInt(this::ownPostage).sum();
        return all == 0 ? 0.0 : (double) (all - cheapest(0)) / all;
    }

    long digest() {
        List<Long> values = new ArrayList<>();
        for (int what = 0; what < 10; what++) {
            values.add((long) count(what));
        }
        Arrays.stream(now.settings).forEach(value -> values.add((long) value));
        Arrays.stream(now.prices).forEach(value -> values.add((long) value));
        Arrays.stream(now.factors).forEach(value -> values.add((long) value));
        for (int length : new int[] {120, 120, 999, 999}) {
            values.add((long) rateOf(length));
        }
        for (int parcel = 0; parcel < now.parcels.size(); parcel++) {
            for (int what = 0; what < 11; what++) {
                values.add((long) parcelOf(parcel, what));
            }
            values.add((long) cheapestWay(parcel));
            for (int other = 0; other < now.parcels.size(); other++) {
                if (other != parcel) {
                    values.add((long) ifBundled(parcel, other));
                }
            }
        }
        values.add((long) cheapest(0));
        values.add((long) cheapest(1));
        values.add((long) dearest());
        values.add(Double.doubleToLongBits(savedShare()));
        for (State slot : slots) {
            values.add(slot == null ? 0L : 1L);
        }
        values.add((long) buffer.length());
        buffer.chars().forEach(code -> values.add((long) code));
        long hash = 3691;
        for (long value : values) {
            hash = 31 * hash + value;
        }
        return hash;
    }
}
