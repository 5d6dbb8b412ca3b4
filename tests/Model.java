import java.nio.charset.StandardCharsets;
import java.util.ArrayList;
import java.util.Arrays;
import java.util.HashMap;
import java.util.List;
import java.util.Map;
import java.util.Optional;
import java.util.function.IntPredicate;
import java.util.regex.Matcher;
import java.util.regex.Pattern;

/**
 * The document once more, as plainly as it goes and without a thought of speed:
 * riders are followed hour by hour, ways are found by trying all, and every
 * "if it were sent" is a realm of its own. Compared with SlowOrder by RandomTest.
 */
public final class Model {
    public static final int NONE = -1;

    static final class Order {
        int rider, thing, says = NONE, undoes = NONE, from, to, hour;
        List<Integer> via = new ArrayList<>();
        int[] wish;
        boolean absent;
        int[] queenly;

        Order copy() {
            Order o = new Order();
            o.rider = rider;
            o.thing = thing;
            o.says = says;
            o.undoes = undoes;
            o.from = from;
            o.to = to;
            o.hour = hour;
            o.via = new ArrayList<>(via);
            o.wish = wish;
            o.absent = absent;
            o.queenly = queenly;
            return o;
        }
    }

    static final class Land {
        int towns, hours, seal, lines;
        List<int[]> roads = new ArrayList<>();
        List<int[]> floods = new ArrayList<>();
        List<int[]> riders = new ArrayList<>();
        List<Order> orders = new ArrayList<>();
        Journey[] journeys;
        // copies have the same roads
        Map<Integer, Optional<List<Integer>>> ways = new HashMap<>();

        Land copy() {
            Land l = new Land();
            l.towns = towns;
            l.hours = hours;
            l.seal = seal;
            l.lines = lines;
            l.ways = ways;
            l.roads.addAll(roads);
            l.floods.addAll(floods);
            l.riders.addAll(riders);
            for (Order o : orders) {
                l.orders.add(o.copy());
            }
            return l;
        }

        int[] road(int a, int b) {
            for (int[] r : roads) {
                if (r[0] == a && r[1] == b || r[0] == b && r[1] == a) {
                    return r;
                }
            }
            return null;
        }

        boolean wet(int a, int b, int hour) {
            int index = roads.indexOf(road(a, b));
            for (int[] f : floods) {
                if (f[0] == index && f[1] <= hour && hour <= f[2]) {
                    return true;
                }
            }
            return false;
        }

        // ---- ways: all simple rows are tried ----

        List<Integer> quickest(int from, int to) {
            return ways.computeIfAbsent(10 * from + to, k -> Optional.ofNullable(seekQuickest(from, to))).orElse(null);
        }

        private List<Integer> seekQuickest(int from, int to) {
            List<List<Integer>> all = new ArrayList<>();
            List<Integer> row = new ArrayList<>();
            row.add(from);
            tryAll(row, to, all);
            List<Integer> best = null;
            for (List<Integer> w : all) {
                if (best == null || length(w) < length(best)
                        || length(w) == length(best) && Arrays.compare(ints(w), ints(best)) < 0) {
                    best = w;
                }
            }
            return best;
        }

        static int[] ints(List<Integer> l) {
            return l.stream().mapToInt(Integer::intValue).toArray();
        }

        void tryAll(List<Integer> row, int to, List<List<Integer>> all) {
            int at = row.get(row.size() - 1);
            if (at == to) {
                all.add(new ArrayList<>(row));
                return;
            }
            for (int t = 0; t < towns; t++) {
                if (road(at, t) != null && !row.contains(t)) {
                    row.add(t);
                    tryAll(row, to, all);
                    row.remove(row.size() - 1);
                }
            }
        }

        int length(List<Integer> row) {
            int sum = 0;
            for (int i = 1; i < row.size(); i++) {
                sum += road(row.get(i - 1), row.get(i))[2];
            }
            return sum;
        }

        Journey journey(int o) {
            if (journeys == null) {
                journeys = new Journey[orders.size()];
            }
            if (journeys[o] == null) {
                Order order = orders.get(o);
                int[] rider = order.queenly != null ? order.queenly : riders.get(order.rider);
                journeys[o] = new Journey(this, order, rider[0], rider[1]);
            }
            return journeys[o];
        }

        int comes(int o) {
            if (orders.get(o).absent) {
                return NONE;
            }
            int end = journey(o).end;
            return end >= 0 && end < hours ? end : NONE;
        }

        // ---- what holds ----

        boolean there(int o, int town, int hour) {
            int c = comes(o);
            return orders.get(o).to == town && c != NONE && c <= hour && c <= seal;
        }

        boolean undone(int o, int town, int hour) {
            if (!there(o, town, hour)) {
                return false;
            }
            for (int j = 0; j < orders.size(); j++) {
                if (orders.get(j).undoes == o && there(j, town, hour) && !undone(j, town, hour)) {
                    return true;
                }
            }
            return false;
        }

        int whose(int town, int thing, int hour) {
            int best = NONE;
            for (int o = orders.size() - 1; o >= 0; o--) {
                Order order = orders.get(o);
                if (order.thing == thing && order.says != NONE && there(o, town, hour)
                        && !undone(o, town, hour) && (best == NONE || comes(o) > comes(best))) {
                    best = o;
                }
            }
            return best;
        }

        int holds(int town, int thing, int hour) {
            int o = whose(town, thing, hour);
            return o == NONE ? NONE : orders.get(o).says;
        }

        int discord(int thing, int hour) {
            int n = 0;
            for (int[] r : roads) {
                if (holds(r[0], thing, hour) != holds(r[1], thing, hour)) {
                    n++;
                }
            }
            return n;
        }

        int discord(int thing) {
            int n = 0;
            for (int h = 0; h < hours; h++) {
                n += discord(thing, h);
            }
            return n;
        }

        Land sentAt(int o, int hour) {
            Land l = copy();
            l.orders.get(o).hour = hour;
            l.orders.get(o).absent = hour >= hours;
            if (journeys != null) {
                l.journeys = journeys.clone();
                l.journeys[o] = null;
            }
            return l;
        }

        boolean had(int o) {
            int[] w = orders.get(o).wish;
            return holds(w[1], orders.get(o).thing, w[2]) == w[0];
        }
    }

    /** One rider, hour by hour. */
    static final class Journey {
        List<Integer> towns = new ArrayList<>();
        List<Integer> in = new ArrayList<>();
        List<Integer> out = new ArrayList<>();
        int[] where;
        int end = NONE;
        int start;

        Journey(Land l, Order o, int pace, int rests) {
            start = o.hour;
            List<Integer> goals = new ArrayList<>(o.via);
            goals.add(o.to);
            towns.add(o.from);
            for (int goal : goals) {
                List<Integer> leg = l.quickest(towns.get(towns.size() - 1), goal);
                if (leg == null) {
                    towns.clear();
                    return;
                }
                towns.addAll(leg.subList(1, leg.size()));
            }
            where = new int[l.hours];
            Arrays.fill(where, NONE);
            int at = 0;
            int resting = 0;
            int riding = 0;
            for (int t = start; end == NONE; t++) {
                if (riding > 0) {
                    riding--;
                    if (riding > 0) {
                        isAt(t, 10 + towns.get(at + 1));
                        continue;
                    }
                    at++;
                    in.add(t);
                    resting = rests;
                } else if (t == start) {
                    in.add(t);
                }
                if (at == towns.size() - 1) {
                    isAt(t, towns.get(at));
                    end = t;
                } else if (resting > 0) {
                    resting--;
                    isAt(t, towns.get(at));
                } else if (l.wet(towns.get(at), towns.get(at + 1), t)) {
                    isAt(t, towns.get(at));
                } else {
                    out.add(t);
                    isAt(t, 10 + towns.get(at + 1));
                    riding = pace * l.road(towns.get(at), towns.get(at + 1))[2];
                }
            }
        }

        // nobody asks where he is beyond the last HOUR
        private void isAt(int hour, int place) {
            if (hour < where.length) {
                where[hour] = place;
            }
        }
    }

    private byte[] tape = new byte[0];
    private Land land = new Land();
    private int fault = 0;
    private int place = NONE;
    private final Land[] images = new Land[3];
    private final long[][] rows = new long[4][];
    private final int[] widths = new int[4];

    // ---- arguments ----

    private boolean town(long n) {
        return n >= 0 && n < land.towns;
    }

    private boolean hour(long n) {
        return n >= 0 && n < land.hours;
    }

    private boolean thing(long n) {
        return n >= 0 && n <= 2;
    }

    private boolean order(long n) {
        return n >= 0 && n < land.orders.size();
    }

    private boolean asked(int town, int thing, int hour) {
        return town(town) && thing(thing) && hour(hour);
    }

    private boolean none() {
        return land.towns == 0;
    }

    // ---- the face ----

    public int feed(int a, int b, int c, int d, int e) {
        if (tape.length + 20 > 2000) {
            return NONE;
        }
        int n = tape.length;
        tape = Arrays.copyOf(tape, n + 20);
        for (int v : new int[] {a, b, c, d, e}) {
            for (int k = 3; k >= 0; k--) {
                tape[n++] = (byte) (v >>> 8 * k);
            }
        }
        return tape.length;
    }

    public int end(int n) {
        if (n < 0 || n > tape.length) {
            return NONE;
        }
        tape = Arrays.copyOf(tape, n);
        return n;
    }

    public int realm() {
        Text text = new Text(tape);
        Land read = text.read();
        tape = new byte[0];
        fault = text.fault;
        place = text.place;
        if (fault != 0) {
            return -4;
        }
        land = read;
        return land.lines;
    }

    public int fault(int what) {
        return what == 0 ? fault : what == 1 ? place : NONE;
    }

    public int hours(int from, int to) {
        if (!town(from) || !town(to)) {
            return -2;
        }
        List<Integer> way = land.quickest(from, to);
        return way == null ? NONE : land.length(way);
    }

    public int way(int from, int to, int i) {
        if (!town(from) || !town(to)) {
            return -2;
        }
        List<Integer> way = land.quickest(from, to);
        return way == null || i < 0 || i >= way.size() ? NONE : way.get(i);
    }

    public int order(int order, int what) {
        if (!order(order) || what < 0 || what > 6) {
            return -2;
        }
        Order o = land.orders.get(order);
        return new int[] {o.rider, o.thing, o.says, o.undoes, o.from, o.to, o.hour}[what];
    }

    public int comes(int order) {
        return order(order) ? land.comes(order) : -2;
    }

    public int rider(int order, int hour) {
        if (!order(order) || !hour(hour)) {
            return -2;
        }
        Journey j = land.journey(order);
        return j.where == null ? NONE : j.where[hour];
    }

    public int passes(int order, int i) {
        if (!order(order)) {
            return -2;
        }
        Journey j = land.journey(order);
        return i < 0 || i >= j.in.size() ? NONE : j.in.get(i);
    }

    public int holds(int town, int thing, int hour) {
        return asked(town, thing, hour) ? land.holds(town, thing, hour) : -2;
    }

    public int whose(int town, int thing, int hour) {
        return asked(town, thing, hour) ? land.whose(town, thing, hour) : -2;
    }

    public int undone(int town, int hour) {
        if (!town(town) || !hour(hour)) {
            return -2;
        }
        int bits = 0;
        for (int o = 0; o < land.orders.size(); o++) {
            bits += land.undone(o, town, hour) ? 1 << o : 0;
        }
        return bits;
    }

    public int changes(int town, int thing) {
        if (!town(town) || !thing(thing)) {
            return -2;
        }
        int n = 0;
        for (int h = 1; h < land.hours; h++) {
            n += land.holds(town, thing, h) != land.holds(town, thing, h - 1) ? 1 : 0;
        }
        return n;
    }

    public int discord(int thing) {
        return none() || !thing(thing) ? -2 : land.discord(thing);
    }

    public int peace(int thing) {
        if (none() || !thing(thing)) {
            return -2;
        }
        int first = NONE;
        for (int h = land.hours - 1; h >= 0 && land.discord(thing, h) == 0; h--) {
            first = h;
        }
        return first;
    }

    public int just(int thing) {
        if (none() || !thing(thing)) {
            return -2;
        }
        Land l = land.copy();
        int best = NONE;
        int least = Integer.MAX_VALUE;
        for (int s = 0; s <= 99; s++) {
            l.seal = s;
            int d = l.discord(thing);
            if (d < least) {
                least = d;
                best = s;
            }
        }
        return best;
    }

    public int seal(int n) {
        if (none() || n < 0 || n > 99) {
            return -2;
        }
        int was = land.seal;
        land.seal = n;
        return was;
    }

    public int sends(int order, int hour) {
        if (!order(order) || !hour(hour)) {
            return -2;
        }
        int was = land.orders.get(order).hour;
        land = land.sentAt(order, hour);
        return was;
    }

    private boolean sayer(int order, int hour) {
        return order(order) && hour(hour) && land.orders.get(order).says != NONE;
    }

    private boolean own(Land l, int order, int hour) {
        return l.whose(l.orders.get(order).to, l.orders.get(order).thing, hour) == order;
    }

    private List<Integer> hoursOf(IntPredicate so) {
        List<Integer> all = new ArrayList<>();
        for (int h = 0; h < land.hours; h++) {
            if (so.test(h)) {
                all.add(h);
            }
        }
        return all;
    }

    public int latest(int order, int hour) {
        if (!sayer(order, hour)) {
            return -2;
        }
        List<Integer> all = hoursOf(h -> own(land.sentAt(order, h), order, hour));
        return all.isEmpty() ? NONE : all.get(all.size() - 1);
    }

    public int earliest(int order, int hour) {
        if (!sayer(order, hour)) {
            return -2;
        }
        List<Integer> all = hoursOf(h -> own(land.sentAt(order, h), order, hour));
        return all.isEmpty() ? NONE : all.get(0);
    }

    private List<int[]> sendings(int order, int hour) {
        List<int[]> all = new ArrayList<>();
        for (int r = 0; r < land.riders.size(); r++) {
            for (int h = 0; h < land.hours; h++) {
                for (int v = NONE; v < land.towns; v++) {
                    Land l = land.sentAt(order, h);
                    Order o = l.orders.get(order);
                    o.rider = r;
                    o.via.clear();
                    if (v != NONE) {
                        o.via.add(v);
                    }
                    if (own(l, order, hour)) {
                        all.add(new int[] {r, h, v});
                    }
                }
            }
        }
        return all;
    }

    public int ways(int order, int hour) {
        return sayer(order, hour) ? sendings(order, hour).size() : -2;
    }

    public int best(int order, int hour, int what) {
        if (!sayer(order, hour) || what < 0 || what > 2) {
            return -2;
        }
        List<int[]> all = sendings(order, hour);
        return all.isEmpty() ? NONE : all.get(0)[what];
    }

    public int delay(int town, int thing, int says, int hour, int what) {
        if (!asked(town, thing, hour) || says < NONE || says > 9 || what < 0 || what > 1) {
            return -2;
        }
        for (int late = 0; late <= land.hours; late++) {
            for (int o = NONE; o < land.orders.size(); o++) {
                if ((o == NONE) != (late == 0)) {
                    continue;
                }
                Land l = o == NONE ? land : land.sentAt(o, land.orders.get(o).hour + late);
                if (l.holds(town, thing, hour) == says) {
                    return what == 0 ? late : o;
                }
            }
        }
        return NONE;
    }

    public int queen(int from, int to, int thing, int says, int hour) {
        if (!town(from) || !asked(to, thing, hour) || from == to || says < 0 || says > 9) {
            return -2;
        }
        int latest = NONE;
        for (int h = 0; h < land.hours; h++) {
            Land l = land.copy();
            Order o = new Order();
            o.thing = thing;
            o.says = says;
            o.from = from;
            o.to = to;
            o.hour = h;
            o.queenly = new int[] {1, 0};
            l.orders.add(o);
            if (own(l, l.orders.size() - 1, hour)) {
                latest = h;
            }
        }
        return latest;
    }

    public int wish(int order) {
        if (!order(order)) {
            return -2;
        }
        return land.orders.get(order).wish == null ? NONE : land.had(order) ? 1 : 0;
    }

    private int[] restless(Land l) {
        for (int o = 0; o < l.orders.size(); o++) {
            if (l.orders.get(o).wish == null || l.had(o)) {
                continue;
            }
            for (int h = 0; h < l.hours; h++) {
                if (l.sentAt(o, h).had(o)) {
                    return new int[] {o, h};
                }
            }
        }
        return null;
    }

    public int rest() {
        if (none()) {
            return -2;
        }
        int[] first = restless(land);
        return first == null ? NONE : first[0];
    }

    public int rests(int n) {
        if (none() || n < 0 || n > 50) {
            return -2;
        }
        Land l = land.copy();
        for (int times = 0; times <= n; times++) {
            int[] first = restless(l);
            if (first == null) {
                return times;
            }
            l = l.sentAt(first[0], first[1]);
        }
        return NONE;
    }

    public int sent(int order, int n) {
        if (!order(order) || n < 0 || n > 50) {
            return -2;
        }
        Land l = land.copy();
        for (int times = 0; times < n; times++) {
            int[] first = restless(l);
            if (first != null) {
                l = l.sentAt(first[0], first[1]);
            }
        }
        return l.orders.get(order).hour;
    }

    private boolean crossing(int a, int b) {
        Journey x = land.journey(a);
        Journey y = land.journey(b);
        for (int i = 0; i + 1 < x.towns.size(); i++) {
            for (int k = 0; k + 1 < y.towns.size(); k++) {
                boolean opposite = x.towns.get(i).equals(y.towns.get(k + 1))
                        && x.towns.get(i + 1).equals(y.towns.get(k));
                if (opposite && x.out.get(i) < y.in.get(k + 1) && y.out.get(k) < x.in.get(i + 1)) {
                    return true;
                }
            }
        }
        return false;
    }

    public int cross() {
        if (none()) {
            return -2;
        }
        int n = 0;
        for (int a = 0; a < land.orders.size(); a++) {
            for (int b = 0; b < a; b++) {
                n += crossing(a, b) ? 1 : 0;
            }
        }
        return n;
    }

    public int meets(int order, int other) {
        return !order(order) || !order(other) || order == other ? -2 : crossing(order, other) ? 1 : 0;
    }

    public int forged(int slot) {
        if (slot < 0 || slot > 3 || none()) {
            return -2;
        }
        long[] row = rows[slot];
        if (row == null) {
            return -6;
        }
        if (row.length % 3 != 0) {
            return -2;
        }
        int n = 0;
        for (int i = 0; i < row.length; i += 3) {
            if (!order(row[i]) || !town(row[i + 1])) {
                return -2;
            }
            Journey j = land.journey((int) row[i]);
            int first = j.towns.indexOf((int) row[i + 1]);
            int came = first < 0 ? NONE : j.in.get(first);
            n += first >= 0 && came < land.hours && came == row[i + 2] ? 0 : 1;
        }
        return n;
    }

    private int seenRefusal(int slot, int order) {
        if (slot < 0 || slot > 3 || !order(order)) {
            return -2;
        }
        long[] row = rows[slot];
        if (row == null) {
            return -6;
        }
        if (row.length % 4 != 0) {
            return -2;
        }
        for (int i = 0; i < row.length; i += 4) {
            if (!town(row[i]) || !thing(row[i + 1]) || !hour(row[i + 2])) {
                return -2;
            }
        }
        return 0;
    }

    private List<Integer> agreeing(int slot, int order) {
        return hoursOf(h -> {
            Land l = land.sentAt(order, h);
            long[] row = rows[slot];
            for (int i = 0; i < row.length; i += 4) {
                if (l.holds((int) row[i], (int) row[i + 1], (int) row[i + 2]) != row[i + 3]) {
                    return false;
                }
            }
            return true;
        });
    }

    public int agree(int slot, int order) {
        int refusal = seenRefusal(slot, order);
        return refusal != 0 ? refusal : agreeing(slot, order).size();
    }

    public int when(int slot, int order, int i) {
        int refusal = seenRefusal(slot, order);
        if (refusal != 0) {
            return refusal;
        }
        List<Integer> all = agreeing(slot, order);
        return i >= 0 && i < all.size() ? all.get(i) : NONE;
    }

    public int sure(int slot, int order, int town, int thing, int hour) {
        if (!asked(town, thing, hour)) {
            return -2;
        }
        int refusal = seenRefusal(slot, order);
        if (refusal != 0) {
            return refusal;
        }
        int[] held = agreeing(slot, order).stream()
                .mapToInt(h -> land.sentAt(order, h).holds(town, thing, hour)).distinct().toArray();
        return held.length == 1 ? held[0] : -5;
    }

    public int matters(int order) {
        if (!order(order)) {
            return -2;
        }
        Land l = land.copy();
        l.orders.get(order).absent = true;
        for (int town = 0; town < land.towns; town++) {
            for (int thing = 0; thing < 3; thing++) {
                for (int h = 0; h < land.hours; h++) {
                    if (l.holds(town, thing, h) != land.holds(town, thing, h)) {
                        return 1;
                    }
                }
            }
        }
        return 0;
    }

    private long x;

    private int draw(int n) {
        x = (1103515245L * x + 12345L) & 0x7fffffffL;
        return (int) ((x >> 16) % n);
    }

    private Land drawn(long seed, int odds) {
        Land l = land.copy();
        x = seed;
        for (int r = 0; r < l.roads.size(); r++) {
            if (draw(100) < odds) {
                int first = draw(l.hours);
                int hours = draw(12) + 1;
                l.floods.add(new int[] {r, first, first + hours - 1});
            }
        }
        return l;
    }

    public int year(int seed, int odds, int order) {
        if (seed < 0 || seed > 2000000000 || odds < 0 || odds > 100 || !order(order)) {
            return -2;
        }
        return drawn(seed, odds).comes(order);
    }

    public int years(int seed, int n, int odds, int town, int thing, int says, int hour) {
        if (seed < 0 || seed > 2000000000 || n < 1 || n > 20 || odds < 0 || odds > 100
                || !asked(town, thing, hour) || says < NONE || says > 9) {
            return -2;
        }
        int count = 0;
        for (int y = 0; y < n; y++) {
            count += drawn((long) seed + y, odds).holds(town, thing, hour) == says ? 1 : 0;
        }
        return count;
    }

    public int count(int what) {
        int rowed = 0;
        for (long[] row : rows) {
            rowed += row == null ? 0 : 1;
        }
        int[] all = {land.towns, land.hours, land.roads.size(), land.floods.size(), land.riders.size(),
            land.orders.size(), land.lines, tape.length, land.seal, rowed};
        return what < 0 || what > 9 ? NONE : all[what];
    }

    public int image(int k) {
        if (k < 0 || k > 2) {
            return -2;
        }
        images[k] = land.copy();
        return 0;
    }

    public int restore(int k) {
        if (k < 0 || k > 2) {
            return -2;
        }
        if (images[k] == null) {
            return -6;
        }
        land = images[k].copy();
        return 0;
    }

    public int row(int slot, int width, int n) {
        if (slot < 0 || slot > 3 || width < 0 || width > 3 || n > 60) {
            return -2;
        }
        if (n < 0) {
            return -3;
        }
        rows[slot] = new long[n];
        widths[slot] = width;
        return 0;
    }

    public int write(int slot, int i, long v) {
        if (slot < 0 || slot > 3) {
            return -2;
        }
        if (rows[slot] == null) {
            return -6;
        }
        if (i < 0 || i >= rows[slot].length) {
            return -7;
        }
        int cut = 64 - (8 << widths[slot]);
        rows[slot][i] = v << cut >> cut;
        return 0;
    }

    public int paste(int slot, int i, int to, int k, int n) {
        if (slot < 0 || slot > 3 || to < 0 || to > 3) {
            return -2;
        }
        if (rows[slot] == null || rows[to] == null) {
            return -6;
        }
        if (widths[slot] != widths[to]) {
            return -8;
        }
        if (i < 0 || k < 0 || n < 0 || (long) i + n > rows[slot].length || (long) k + n > rows[to].length) {
            return -7;
        }
        long[] was = rows[slot].clone();
        for (int m = 0; m < n; m++) {
            rows[to][k + m] = was[i + m];
        }
        return 0;
    }

    /** A text read by patterns: words as they are, a number's name in capitals. */
    static final class Text {
        private static final Pattern TOKEN = Pattern.compile("[a-z]+|[0-9]+|[^ \n]", Pattern.DOTALL);
        private static final String ORDER_END = " from TOWN to OTHER at HOUR";

        int fault = 0;
        int place = NONE;
        private final List<String> tokens = new ArrayList<>();
        private final List<Integer> places = new ArrayList<>();
        private int at = 0;
        private final Land l = new Land();

        Text(byte[] bytes) {
            String text = new String(bytes, StandardCharsets.ISO_8859_1);
            Matcher m = TOKEN.matcher(text);
            while (m.find()) {
                tokens.add(m.group());
                places.add(m.start());
            }
            tokens.add("END");
            places.add(text.length());
        }

        private String token() {
            return tokens.get(at);
        }

        private boolean fail(int what) {
            fault = what;
            place = places.get(at);
            return false;
        }

        Land read() {
            while (fault == 0 && !token().equals("END")) {
                if (line()) {
                    l.lines++;
                }
            }
            return l;
        }

        private boolean line() {
            String word = token();
            if (word.equals("realm") != (l.lines == 0)) {
                return fail(1);
            }
            List<Integer> v = new ArrayList<>();
            switch (word) {
                case "realm":
                    if (!all("realm towns TOWNS hours HOURS ;", v)) {
                        return false;
                    }
                    l.towns = v.get(0);
                    l.hours = v.get(1);
                    l.seal = 99;
                    return true;
                case "road":
                    if (l.roads.size() == 12) {
                        return fail(3);
                    }
                    return all("road TOWN to ROADLESS hours LENGTH ;", v)
                        && l.roads.add(new int[] {v.get(0), v.get(1), v.get(2)});
                case "flood":
                    if (l.floods.size() == 8) {
                        return fail(3);
                    }
                    return all("flood TOWN to ROADED from HOUR to NOLESS ;", v)
                        && l.floods.add(new int[] {l.roads.indexOf(l.road(v.get(0), v.get(1))),
                            v.get(2), v.get(3)});
                case "rider":
                    if (l.riders.size() == 6) {
                        return fail(3);
                    }
                    return all("rider pace PACE rests RESTS ;", v)
                        && l.riders.add(new int[] {v.get(0), v.get(1)});
                case "order":
                    return l.orders.size() == 10 ? fail(3) : order(v);
                case "wish":
                    if (!all("wish SAYER says SAYING in TOWN at HOUR ;", v)) {
                        return false;
                    }
                    l.orders.get(v.get(0)).wish = new int[] {v.get(1), v.get(2), v.get(3)};
                    return true;
                case "seal":
                    if (!all("seal SEAL ;", v)) {
                        return false;
                    }
                    l.seal = v.get(0);
                    return true;
                default:
                    return fail(1);
            }
        }

        private boolean order(List<Integer> v) {
            if (!all("order rider RIDER on THING", v)) {
                return false;
            }
            boolean undoes = token().equals("undoes");
            if (!all((undoes ? "undoes ORDER" : "says SAYING") + ORDER_END, v)) {
                return false;
            }
            boolean via = token().equals("via");
            if (via) {
                if (!all("via TOWN", v)) {
                    return false;
                }
                while (v.size() < 9 && Character.isDigit(token().charAt(0))) {
                    if (!all("TOWN", v)) {
                        return false;
                    }
                }
            }
            if (!all(";", v)) {
                return false;
            }
            Order o = new Order();
            o.rider = v.get(0);
            o.thing = v.get(1);
            if (undoes) {
                o.undoes = v.get(2);
            } else {
                o.says = v.get(2);
            }
            o.from = v.get(3);
            o.to = v.get(4);
            o.hour = v.get(5);
            o.via.addAll(v.subList(6, v.size()));
            return l.orders.add(o);
        }

        private boolean all(String pattern, List<Integer> values) {
            for (String part : pattern.split(" ")) {
                if (part.isEmpty()) {
                    continue;
                }
                if (Character.isUpperCase(part.charAt(0))) {
                    if (!Character.isDigit(token().charAt(0))) {
                        return fail(1);
                    }
                    String digits = token().replaceFirst("^0+", "");
                    int n = digits.isEmpty() ? 0 : digits.length() > 6 ? 999999 : Integer.parseInt(digits);
                    if (!fits(part, n, values)) {
                        return fail(2);
                    }
                    values.add(n);
                } else if (!part.equals(token())) {
                    return fail(1);
                }
                at++;
            }
            return true;
        }

        private boolean fits(String name, int n, List<Integer> values) {
            int before = values.isEmpty() ? NONE : values.get(values.size() - 1);
            switch (name) {
                case "TOWNS": return n >= 2 && n <= 8;
                case "HOURS": return n >= 5 && n <= 99;
                case "TOWN": return n < l.towns;
                case "OTHER": return n < l.towns && n != before;
                case "ROADLESS": return n < l.towns && n != before && l.road(before, n) == null;
                case "ROADED": return n < l.towns && l.road(before, n) != null;
                case "LENGTH": return n >= 1 && n <= 20;
                case "HOUR": return n < l.hours;
                case "NOLESS": return n >= before && n < l.hours;
                case "PACE": return n >= 1 && n <= 9;
                case "RESTS": return n <= 20;
                case "RIDER": return n < l.riders.size();
                case "THING": return n <= 2;
                case "SAYING": return n <= 9;
                case "ORDER": return n < l.orders.size();
                case "SAYER": return n < l.orders.size() && l.orders.get(n).says != NONE;
                case "SEAL": return n <= 99;
                default: throw new IllegalStateException(name);
            }
        }
    }
}
