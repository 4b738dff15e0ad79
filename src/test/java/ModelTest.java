import java.math.BigInteger;
import java.util.ArrayDeque;
import java.util.ArrayList;
import java.util.Arrays;
import java.util.HashMap;
import java.util.HashSet;
import java.util.List;
import java.util.Map;
import java.util.PriorityQueue;
import java.util.Random;
import java.util.Set;
import java.util.regex.Matcher;
import java.util.regex.Pattern;

/**
 * Long runs of calls drawn by a fixed seed, answered by the class and by a model that works in
 * another way: real rows and casts, a pattern for the TEXT, a time-line of minutes, whole rows of
 * TRIPS in a queue. Both have one author, so a misreading of the document may be in both.
 */
public final class ModelTest {
    private static final int UNKNOWN = -1, OUTSIDE = -2, STATE = -3, FULL = -4, NONE = -9;
    private static final long LOST = Long.MIN_VALUE;
    private static final int MOST_CALLS = 512;

    // ---------------------------------------------------------------- the model

    interface Hailed {
        int number();

        List<Integer> bodies();

        default int hailed() {
            bodies().add(4);
            return number();
        }
    }

    static class Thing implements Hailed {
        final int number, pounds;
        final List<Integer> bodies;

        Thing(int number, int pounds, List<Integer> bodies) {
            this.number = number;
            this.pounds = pounds;
            this.bodies = bodies;
        }

        public int number() {
            return number;
        }

        public List<Integer> bodies() {
            return bodies;
        }

        int kind() {
            return 0;
        }

        int told() {
            return toldAsThing();
        }

        final int toldAsThing() {
            bodies.add(1);
            return pounds;
        }
    }

    static class Food extends Thing {
        Food(int number, int pounds, List<Integer> bodies) {
            super(number, pounds, bodies);
        }

        @Override
        int kind() {
            return 1;
        }

        @Override
        int told() {
            bodies.add(2);
            return super.told() + 100;
        }
    }

    static class Child extends Food {
        Child(int number, int pounds, List<Integer> bodies) {
            super(number, pounds, bodies);
        }

        @Override
        int kind() {
            return 2;
        }

        @Override
        int told() {
            bodies.add(3);
            return super.told() + toldAsThing();
        }

        @Override
        public int hailed() {
            bodies.add(5);
            return 60;
        }
    }

    /** A world in which TRIPS are gone: everything the answers of the parts 2 to 4 hang on. */
    static final class World {
        int bears, rain = NONE;
        int[] longs, muds;
        boolean[] boards;
        int[] kinds, pounds;
        boolean[] there;

        World copy() {
            World w = new World();
            w.bears = bears;
            w.rain = rain;
            w.longs = longs.clone();
            w.muds = muds.clone();
            w.boards = boards.clone();
            w.kinds = kinds.clone();
            w.pounds = pounds.clone();
            w.there = there.clone();
            return w;
        }

        boolean well(int t, Set<Integer> at) {
            switch (kinds[t]) {
                case 0:
                    return true;
                case 1:
                    return at.size() > 1;
                default:
                    return at.size() > 1 && at.stream().noneMatch(o -> kinds[o] == 1);
            }
        }

        Set<Integer> at(int[] where, int spot) {
            Set<Integer> set = new HashSet<>();
            for (int t = 0; t < kinds.length; t++) {
                if (there[t] && where[t] == spot) {
                    set.add(t);
                }
            }
            return set;
        }

        int weight(int set) {
            int sum = 0;
            for (int t = 0; t < kinds.length; t++) {
                sum += (set & 1 << t) != 0 ? pounds[t] : 0;
            }
            return sum;
        }

        int mud(int from, int to, int begin) {
            int stage = to > from ? from : to;
            int mud = boards[stage] ? 0 : muds[stage];
            return rain != NONE && rain <= begin ? mud + mud : mud;
        }

        int takes(int from, int to, int set, int begin) {
            int plain = longs[to > from ? from : to];
            return set == 0 ? plain : plain + mud(from, to, begin) + weight(set) / 3;
        }

        /** where[0 ..] the THINGS, the last one he himself. */
        boolean can(int[] where, int to, int set) {
            int me = where[where.length - 1];
            if (to != me - 1 && to != me + 1) {
                return false;
            }
            Set<Integer> stay = at(where, me);
            for (int t = 0; t < kinds.length; t++) {
                if ((set & 1 << t) != 0 && !stay.remove(t)) {
                    return false;
                }
            }
            return weight(set) <= bears && stay.stream().allMatch(t -> well(t, stay));
        }

        int[] after(int[] where, int to, int set) {
            int[] next = where.clone();
            next[next.length - 1] = to;
            for (int t = 0; t < kinds.length; t++) {
                if ((set & 1 << t) != 0) {
                    next[t] = to;
                }
            }
            return next;
        }

        boolean over(int[] where) {
            for (int t = 0; t < where.length; t++) {
                boolean counts = t == where.length - 1 || there[t];
                if (counts && where[t] != longs.length) {
                    return false;
                }
            }
            return true;
        }
    }

    /** A told row of TRIPS, gone in a world. */
    static final class Gone {
        int wrong = NONE, minutes;
        int[] where;
        BigInteger upper = BigInteger.ONE, lower = BigInteger.ONE;
        /** Each THING's SPOT as minutes 0, 1, 2 .. end. */
        final List<int[]> line = new ArrayList<>();

        Gone(World w, int[][] trips) {
            where = new int[w.kinds.length + 1];
            for (int k = 0; k < trips.length; k++) {
                int to = trips[k][0], set = trips[k][1], me = where[where.length - 1];
                if (!w.can(where, to, set)) {
                    wrong = k;
                    return;
                }
                int takes = w.takes(me, to, set, minutes);
                for (int m = 0; m < takes; m++) {
                    int[] now = where.clone();
                    for (int t = 0; t < w.kinds.length; t++) {
                        if ((set & 1 << t) != 0) {
                            now[t] = NONE;
                        }
                    }
                    line.add(now);
                }
                if (set != 0) {
                    upper = upper.multiply(BigInteger.valueOf(10 - w.mud(me, to, minutes)));
                    lower = lower.multiply(BigInteger.TEN);
                }
                minutes += takes;
                where = w.after(where, to, set);
            }
            BigInteger common = upper.gcd(lower);
            upper = upper.divide(common);
            lower = lower.divide(common);
        }

        int at(int t, int m) {
            return m < line.size() ? line.get(m)[t] : where[t];
        }
    }

    /** A row of TRIPS on the way to the SOONEST, with where it has led. */
    static final class Row implements Comparable<Row> {
        final int minutes;
        final List<int[]> trips;
        final int[] where;

        Row(int minutes, List<int[]> trips, int[] where) {
            this.minutes = minutes;
            this.trips = trips;
            this.where = where;
        }

        @Override
        public int compareTo(Row o) {
            if (minutes != o.minutes) {
                return Integer.compare(minutes, o.minutes);
            }
            if (trips.size() != o.trips.size()) {
                return Integer.compare(trips.size(), o.trips.size());
            }
            for (int k = 0; k < trips.size(); k++) {
                int c = Arrays.compare(trips.get(k), o.trips.get(k));
                if (c != 0) {
                    return c;
                }
            }
            return 0;
        }
    }

    static Row soonestOf(World w) {
        PriorityQueue<Row> queue = new PriorityQueue<>();
        Set<String> seen = new HashSet<>();
        queue.add(new Row(0, new ArrayList<>(), new int[w.kinds.length + 1]));
        while (!queue.isEmpty()) {
            Row row = queue.poll();
            if (w.over(row.where)) {
                return row;
            }
            if (!seen.add(Arrays.toString(row.where))) {
                continue;
            }
            int me = row.where[row.where.length - 1];
            for (int to = 0; to <= w.longs.length; to++) {
                for (int set = 0; set < 1 << w.kinds.length; set++) {
                    if (w.can(row.where, to, set)) {
                        List<int[]> trips = new ArrayList<>(row.trips);
                        trips.add(new int[] {to, set});
                        queue.add(new Row(row.minutes + w.takes(me, to, set, row.minutes), trips,
                            w.after(row.where, to, set)));
                    }
                }
            }
        }
        return null;
    }

    static int fewestOf(World w) {
        Map<String, Integer> depth = new HashMap<>();
        ArrayDeque<int[]> queue = new ArrayDeque<>();
        int[] first = new int[w.kinds.length + 1];
        queue.add(first);
        depth.put(Arrays.toString(first), 0);
        while (!queue.isEmpty()) {
            int[] where = queue.poll();
            int now = depth.get(Arrays.toString(where));
            if (w.over(where)) {
                return now;
            }
            for (int to = 0; to <= w.longs.length; to++) {
                for (int set = 0; set < 1 << w.kinds.length; set++) {
                    if (w.can(where, to, set)) {
                        int[] next = w.after(where, to, set);
                        if (depth.putIfAbsent(Arrays.toString(next), now + 1) == null) {
                            queue.add(next);
                        }
                    }
                }
            }
        }
        return NONE;
    }

    static final class Model {
        private static final Pattern TEXT =
            Pattern.compile("g[1-9](;[1-9][0-4]){1,3}(,[tfc][1-9]){1,4}");

        World world;
        Thing[] things = {};
        final Object[] sheets = new Object[4];
        final List<int[]> readings = new ArrayList<>();
        final List<Integer> bodies = new ArrayList<>();
        int fault;
        int[][] told;

        int bad(int which) {
            fault = which;
            return -10 - which;
        }

        int stages() {
            return world == null ? 0 : world.longs.length;
        }

        static int laneOf(Object row) {
            return row instanceof byte[] ? 0 : row instanceof short[] ? 1 : 2;
        }

        static int sizeOf(Object row) {
            return java.lang.reflect.Array.getLength(row);
        }

        static int cellOf(Object row, int i) {
            return ((Number) java.lang.reflect.Array.get(row, i)).intValue();
        }

        int portage(int sheet, int lane, int i, int n) {
            fault = 0;
            if (sheet < 0 || sheet > 3) {
                return UNKNOWN;
            }
            if (lane < 0 || lane > 2) {
                return OUTSIDE;
            }
            Object row = sheets[sheet];
            if (row != null && laneOf(row) != lane) {
                return bad(2);
            }
            if (row == null) {
                return bad(1);
            }
            if (n < 0) {
                return bad(4);
            }
            if (i < 0 || i > sizeOf(row) || (long) i + n > sizeOf(row)) {
                return bad(3);
            }
            StringBuilder text = new StringBuilder();
            for (int k = 0; k < n; k++) {
                int code = cellOf(row, i + k);
                text.append(code >= 32 && code < 127 ? (char) code : '?');
            }
            if (!TEXT.matcher(text).matches()) {
                for (int k = 0; k < n; k++) {
                    Matcher m = TEXT.matcher(text.substring(0, k + 1));
                    if (!m.matches() && !m.hitEnd()) {
                        return -100 - k;
                    }
                }
                return -100 - n;
            }
            take(text.toString());
            return things.length;
        }

        private void take(String text) {
            String[] parts = text.split(",");
            String[] path = parts[0].split(";");
            world = new World();
            world.bears = path[0].charAt(1) - 48;
            int stages = path.length - 1, count = parts.length - 1;
            world.longs = new int[stages];
            world.muds = new int[stages];
            world.boards = new boolean[stages];
            for (int k = 0; k < stages; k++) {
                world.longs[k] = path[k + 1].charAt(0) - 48;
                world.muds[k] = path[k + 1].charAt(1) - 48;
            }
            world.kinds = new int[count];
            world.pounds = new int[count];
            world.there = new boolean[count];
            things = new Thing[count];
            for (int t = 0; t < count; t++) {
                int pounds = parts[t + 1].charAt(1) - 48;
                switch (parts[t + 1].charAt(0)) {
                    case 't':
                        things[t] = new Thing(t, pounds, bodies);
                        break;
                    case 'f':
                        things[t] = new Food(t, pounds, bodies);
                        break;
                    default:
                        things[t] = new Child(t, pounds, bodies);
                        break;
                }
                world.kinds[t] = things[t].kind();
                world.pounds[t] = pounds;
                world.there[t] = true;
            }
            readings.clear();
        }

        int ofStage(int k, int what) {
            if (k < 0 || k >= stages()) {
                return UNKNOWN;
            }
            return what == 0 ? world.longs[k] : what == 1 ? world.muds[k]
                : what == 2 ? (world.boards[k] ? 1 : 0) : OUTSIDE;
        }

        boolean none(int t) {
            return t < 0 || t >= things.length;
        }

        int ofThing(int t, int what) {
            if (none(t)) {
                return UNKNOWN;
            }
            return what == 0 ? things[t].kind() : what == 1 ? things[t].pounds : OUTSIDE;
        }

        int bears(int v) {
            if (v < 1 || v > 36) {
                return OUTSIDE;
            }
            if (world == null) {
                return STATE;
            }
            int was = world.bears;
            world.bears = v;
            return was;
        }

        int rain(int v) {
            if (v != NONE && (v < 0 || v > 99)) {
                return OUTSIDE;
            }
            if (world == null) {
                return STATE;
            }
            int was = world.rain;
            world.rain = v;
            return was;
        }

        int boards(int k, boolean are) {
            if (k < 0 || k >= stages()) {
                return UNKNOWN;
            }
            boolean was = world.boards[k];
            world.boards[k] = are;
            return was != are ? 1 : 0;
        }

        int well(int set) {
            if (set < 0 || set >= 1 << things.length) {
                return OUTSIDE;
            }
            if (world == null) {
                return STATE;
            }
            int[] where = new int[things.length];
            for (int t = 0; t < where.length; t++) {
                where[t] = (set & 1 << t) != 0 ? 0 : 1;
            }
            Set<Integer> at = world.at(where, 0);
            int answer = 0;
            for (int t : at) {
                answer += world.well(t, at) ? 1 << t : 0;
            }
            return answer;
        }

        /** 0 if the TRIPS are told as they must be. */
        int listen(int sheet, int lane, int i, int n, boolean asked) {
            if (sheet < 0 || sheet > 3) {
                return UNKNOWN;
            }
            if (lane < 0 || lane > 2 || n < 0 || n > 18 || !asked) {
                return OUTSIDE;
            }
            Object row = sheets[sheet];
            if (row == null) {
                return bad(1);
            }
            if (laneOf(row) != lane) {
                return bad(2);
            }
            if (i < 0 || i > sizeOf(row) || (long) i + 2 * n > sizeOf(row)) {
                return bad(3);
            }
            if (world == null) {
                return STATE;
            }
            told = new int[n][];
            for (int k = 0; k < n; k++) {
                told[k] = new int[] {cellOf(row, i + 2 * k), cellOf(row, i + 2 * k + 1)};
                if (told[k][0] < 0 || told[k][0] > stages()) {
                    return UNKNOWN;
                }
                if (told[k][1] < 0 || told[k][1] >= 1 << things.length) {
                    return OUTSIDE;
                }
            }
            return 0;
        }

        int trips(int sheet, int lane, int i, int n, int what) {
            fault = 0;
            int no = listen(sheet, lane, i, n, what >= 0 && what < 3 || what >= 10 && what < 14);
            if (no != 0) {
                return no;
            }
            Gone gone = new Gone(world, told);
            if (what == 1) {
                return gone.wrong;
            }
            if (gone.wrong != NONE) {
                return -100 - gone.wrong;
            }
            if (what == 0) {
                return gone.minutes;
            }
            if (what == 2) {
                return gone.where[things.length];
            }
            if (what - 10 > stages()) {
                return NONE;
            }
            int answer = 0;
            for (int t : world.at(gone.where, what - 10)) {
                answer += 1 << t;
            }
            return answer;
        }

        int at(int t, int m, int sheet, int lane, int i, int n) {
            fault = 0;
            if (none(t)) {
                return UNKNOWN;
            }
            if (m < 0 || m > 999) {
                return OUTSIDE;
            }
            int no = listen(sheet, lane, i, n, true);
            if (no != 0) {
                return no;
            }
            Gone gone = new Gone(world, told);
            return gone.wrong == NONE ? gone.at(t, m) : -100 - gone.wrong;
        }

        long dry(int sheet, int lane, int i, int n, int which) {
            fault = 0;
            if (listen(sheet, lane, i, n, which == 0 || which == 1) != 0) {
                return LOST;
            }
            Gone gone = new Gone(world, told);
            return gone.wrong != NONE ? LOST : (which == 0 ? gone.upper : gone.lower).longValue();
        }

        int soonest() {
            if (world == null) {
                return STATE;
            }
            Row row = soonestOf(world);
            return row == null ? NONE : row.minutes;
        }

        int trip(int k, int what) {
            if (k < 0) {
                return UNKNOWN;
            }
            if (what != 0 && what != 1) {
                return OUTSIDE;
            }
            if (world == null) {
                return STATE;
            }
            Row row = soonestOf(world);
            return row == null || k >= row.trips.size() ? NONE : row.trips.get(k)[what];
        }

        int fewest() {
            return world == null ? STATE : fewestOf(world);
        }

        int cost(int t) {
            if (none(t)) {
                return UNKNOWN;
            }
            World w = world.copy();
            w.there[t] = false;
            Row with = soonestOf(world), without = soonestOf(w);
            return things.length == 1 || with == null || without == null
                ? NONE : with.minutes - without.minutes + 1000;
        }

        int help(int v) {
            if (v < 0 || v > 36) {
                return OUTSIDE;
            }
            if (world == null) {
                return STATE;
            }
            World w = world.copy();
            w.bears += v;
            Row now = soonestOf(world), then = soonestOf(w);
            return now == null || then == null ? NONE : now.minutes - then.minutes;
        }

        int reading(int t, int spot, int minute) {
            if (none(t) || spot < 0 || spot > stages()) {
                return UNKNOWN;
            }
            if (minute < 0 || minute > 99) {
                return OUTSIDE;
            }
            if (readings.size() == 8) {
                return FULL;
            }
            readings.add(new int[] {t, spot, minute});
            return readings.size() - 1;
        }

        int back(int k) {
            if (k < 0 || k > readings.size()) {
                return OUTSIDE;
            }
            readings.subList(readings.size() - k, readings.size()).clear();
            return readings.size();
        }

        boolean so(World w) {
            Gone gone = new Gone(w, told);
            return gone.wrong == NONE
                && readings.stream().allMatch(r -> gone.at(r[0], r[2]) == r[1]);
        }

        int since(int sheet, int lane, int i, int n) {
            fault = 0;
            int no = listen(sheet, lane, i, n, true);
            if (no != 0) {
                return no;
            }
            int answer = 0;
            for (int m = 0; m < 31; m++) {
                World w = world.copy();
                w.rain = m;
                answer += so(w) ? 1 << m : 0;
            }
            return answer;
        }

        int kinds(int t, int sheet, int lane, int i, int n) {
            fault = 0;
            if (none(t)) {
                return UNKNOWN;
            }
            int no = listen(sheet, lane, i, n, true);
            if (no != 0) {
                return no;
            }
            int answer = 0;
            for (int kind = 0; kind < 3; kind++) {
                World w = world.copy();
                w.kinds[t] = kind;
                answer += so(w) ? 1 << kind : 0;
            }
            return answer;
        }

        int sheet(int k, int lane, int n) {
            fault = 0;
            if (k < 0 || k > 3) {
                return UNKNOWN;
            }
            if (lane < 0 || lane > 2 || n > 60) {
                return OUTSIDE;
            }
            if (n < 0) {
                return bad(4);
            }
            sheets[k] = lane == 0 ? new byte[n] : lane == 1 ? new short[n] : (Object) new int[n];
            return 1;
        }

        int lose(int k) {
            if (k < 0 || k > 3) {
                return UNKNOWN;
            }
            boolean had = sheets[k] != null;
            sheets[k] = null;
            return had ? 1 : 0;
        }

        int put(int k, int i, int v) {
            fault = 0;
            if (k < 0 || k > 3) {
                return UNKNOWN;
            }
            if (sheets[k] == null) {
                return bad(1);
            }
            try {
                if (sheets[k] instanceof byte[]) {
                    ((byte[]) sheets[k])[i] = (byte) v;
                } else if (sheets[k] instanceof short[]) {
                    ((short[]) sheets[k])[i] = (short) v;
                } else {
                    ((int[]) sheets[k])[i] = v;
                }
                return 1;
            } catch (ArrayIndexOutOfBoundsException e) {
                return bad(3);
            }
        }

        long cell(int k, int i, int lane) {
            fault = 0;
            if (k < 0 || k > 3 || lane < 0 || lane > 2) {
                return LOST;
            }
            try {
                return lane == 0 ? ((byte[]) sheets[k])[i]
                    : lane == 1 ? ((short[]) sheets[k])[i] : ((int[]) sheets[k])[i];
            } catch (NullPointerException e) {
                bad(1);
            } catch (ClassCastException e) {
                bad(2);
            } catch (ArrayIndexOutOfBoundsException e) {
                bad(3);
            }
            return LOST;
        }

        @SuppressWarnings("SuspiciousSystemArraycopy")
        int copy(int k, int i, int other, int j, int n) {
            fault = 0;
            if (k < 0 || k > 3 || other < 0 || other > 3) {
                return UNKNOWN;
            }
            try {
                System.arraycopy(sheets[k], i, sheets[other], j, n);
                return n;
            } catch (NullPointerException e) {
                return bad(1);
            } catch (ArrayStoreException e) {
                return bad(2);
            } catch (IndexOutOfBoundsException e) {
                return bad(3);
            }
        }

        int tell(int t) {
            return none(t) ? UNKNOWN : things[t].told();
        }

        int hail(int t) {
            return none(t) ? UNKNOWN : things[t].hailed();
        }

        int as(int t, int kind) {
            fault = 0;
            if (none(t)) {
                return UNKNOWN;
            }
            if (kind < 0 || kind > 2) {
                return OUTSIDE;
            }
            boolean is = kind == 0 || (kind == 1 ? things[t] instanceof Food
                : things[t] instanceof Child);
            return is ? 1 : bad(2);
        }

        int trace() {
            return bodies.stream().reduce(0, (a, b) -> 31 * a + b);
        }

        int many(int what) {
            return what == 0 ? stages() : what == 1 ? things.length
                : what == 2 ? (world == null ? 0 : world.bears)
                : what == 3 ? readings.size() : OUTSIDE;
        }
    }

    // ---------------------------------------------------------------- the runs

    private static final int[] EDGES = {
        Integer.MIN_VALUE, Integer.MIN_VALUE + 1, -65536, -129, -100, -10, -9, -8, -3, -2, -1, 0, 1, 2, 3, 4,
        5, 8, 9, 10, 13, 14, 15, 16, 17, 18, 19, 30, 31, 36, 37, 59, 60, 61, 99, 100, 127, 128,
        255, 256, 999, 1000, 32767, 32768, 65536, 1 << 30, Integer.MAX_VALUE - 1, Integer.MAX_VALUE
    };

    private final Random random;
    private final int run;
    private final PortageTrips real = new PortageTrips();
    private final Model model = new Model();
    private final StringBuilder past = new StringBuilder();
    private int calls;
    private static int wrong;
    private static long compared;
    private static final Map<String, Set<Long>> answers = new HashMap<>();

    private ModelTest(int run) {
        this.run = run;
        this.random = new Random(90001L + run);
    }

    private void same(String call, long got, long due) {
        calls++;
        compared++;
        past.append(call).append(" = ").append(due).append("; ");
        answers.computeIfAbsent(call.substring(0, call.indexOf('(')), c -> new HashSet<>()).add(due);
        if (got != due) {
            wrong++;
            if (wrong < 20) {
                System.out.println("run " + run + ": " + call + " answered " + got + ", due is "
                    + due + "\n    after " + past);
            }
        }
        long gotFault = real.fault();
        if (gotFault != model.fault) {
            wrong++;
            System.out.println("run " + run + ": fault() after " + call + " answered " + gotFault
                + ", due is " + model.fault);
        }
        calls++;
    }

    /** Mostly a number from low to high, now and then one of the edges. */
    private int pick(int low, int high) {
        return random.nextInt(24) == 0 ? EDGES[random.nextInt(EDGES.length)]
            : low + random.nextInt(high - low + 1);
    }

    private int pickSheet() {
        return random.nextInt(30) == 0 ? pick(-1, 4) : random.nextInt(4);
    }

    /** A SHEET's lane as it is, so that a call often comes through; else some lane. */
    private int laneFor(int k) {
        return k >= 0 && k < 4 && model.sheets[k] != null && random.nextInt(12) != 0
            ? Model.laneOf(model.sheets[k]) : pick(-1, 3);
    }

    private void write(int k, int lane, int offset, int[] cells) {
        int n = Math.min(60, offset + cells.length + random.nextInt(3));
        same("sheet(" + k + ", " + lane + ", " + n + ")", real.sheet(k, lane, n), model.sheet(k, lane, n));
        for (int c = 0; c < cells.length && offset + c < n; c++) {
            int i = offset + c, v = cells[c];
            same("put(" + k + ", " + i + ", " + v + ")", real.put(k, i, v), model.put(k, i, v));
        }
    }

    private void callPortage(int k, int lane, int i, int n) {
        same("portage(" + k + ", " + lane + ", " + i + ", " + n + ")",
            real.portage(k, lane, i, n), model.portage(k, lane, i, n));
    }

    private void tellPortage() {
        StringBuilder text = new StringBuilder("g").append((char) ('4' + random.nextInt(6)));
        int stages = 1 + random.nextInt(3), things = 1 + random.nextInt(4);
        // Short ways and much to carry: then several rows of TRIPS are often equally soon.
        int longest = random.nextBoolean() ? 2 : 9, heaviest = random.nextBoolean() ? 6 : 9;
        for (int s = 0; s < stages; s++) {
            text.append(';').append(1 + random.nextInt(longest)).append(random.nextInt(5));
        }
        for (int t = 0; t < things; t++) {
            text.append(',').append("ttfc".charAt(random.nextInt(4))).append(1 + random.nextInt(heaviest));
        }
        if (random.nextInt(3) == 0) {
            int at = random.nextInt(text.length());
            switch (random.nextInt(4)) {
                case 0:
                    text.setCharAt(at, "gtfc;,0123456789x".charAt(random.nextInt(17)));
                    break;
                case 1:
                    text.insert(at, "gtfc;,0123456789x".charAt(random.nextInt(17)));
                    break;
                case 2:
                    text.append(random.nextBoolean() ? ",t3" : ";11");
                    break;
                default:
                    text.setLength(at);
            }
        }
        int k = random.nextInt(4), lane = random.nextInt(3), offset = random.nextInt(3);
        int cut = lane == 0 ? 256 : lane == 1 ? 65536 : 0;
        write(k, lane, offset, text.chars().map(c -> c + cut).toArray());
        callPortage(k, lane, offset, text.length());
        if (random.nextInt(4) == 0) {
            callPortage(k, laneFor(k), pick(-1, 5), pick(-1, 24));
        }
    }

    /** TRIPS that can be, drawn one by one, with a wrong one here and there. */
    private int[] drawTrips(int n) {
        int[] cells = new int[2 * n];
        World w = model.world;
        int[] where = w == null ? null : new int[w.kinds.length + 1];
        for (int k = 0; k < n; k++) {
            int to = random.nextInt(4), set = random.nextInt(16);
            if (w != null && random.nextInt(25) != 0) {
                List<int[]> can = new ArrayList<>();
                for (int s = 0; s <= w.longs.length; s++) {
                    for (int c = 0; c < 1 << w.kinds.length; c++) {
                        if (w.can(where, s, c)) {
                            can.add(new int[] {s, c});
                        }
                    }
                }
                if (!can.isEmpty()) {
                    int[] one = can.get(random.nextInt(can.size()));
                    if (one[1] == 0) {
                        one = can.get(random.nextInt(can.size()));
                    }
                    to = one[0];
                    set = one[1];
                }
            } else if (w != null && random.nextInt(3) != 0) {
                to %= w.longs.length + 1;
                set %= 1 << w.kinds.length;
            }
            cells[2 * k] = to;
            cells[2 * k + 1] = set;
            where = w == null ? null : w.after(where, to, set);
        }
        return cells;
    }

    private void useTrips() {
        int n = random.nextInt(3) == 0 ? random.nextInt(19) : random.nextInt(6);
        int k = random.nextInt(4), lane = random.nextInt(3), offset = random.nextInt(4);
        write(k, lane, offset, drawTrips(n));
        for (int more = 0; more < 10; more++) {
            int i = random.nextInt(10) == 0 ? pick(-1, 6) : offset;
            int m = random.nextInt(10) == 0 ? pick(-1, 19) : n;
            int from = random.nextInt(25) == 0 ? pickSheet() : k;
            askTrips(from, laneFor(from), i, m);
            if (random.nextInt(3) == 0) {
                readAsItWas();
            }
        }
    }

    private void askTrips(int k, int lane, int i, int n) {
        String rest = k + ", " + lane + ", " + i + ", " + n;
        int t = pick(0, 3);
        switch (random.nextInt(5)) {
            case 0: {
                int what = random.nextBoolean() ? pick(0, 3) : pick(10, 13);
                same("trips(" + rest + ", " + what + ")", real.trips(k, lane, i, n, what),
                    model.trips(k, lane, i, n, what));
                break;
            }
            case 1: {
                int m = random.nextInt(10) == 0 ? pick(-1, 1000) : pick(0, 60);
                same("at(" + t + ", " + m + ", " + rest + ")", real.at(t, m, k, lane, i, n),
                    model.at(t, m, k, lane, i, n));
                break;
            }
            case 2: {
                int which = pick(0, 1);
                same("dry(" + rest + ", " + which + ")", real.dry(k, lane, i, n, which),
                    model.dry(k, lane, i, n, which));
                break;
            }
            case 3:
                same("since(" + rest + ")", real.since(k, lane, i, n), model.since(k, lane, i, n));
                break;
            default:
                same("kinds(" + t + ", " + rest + ")", real.kinds(t, k, lane, i, n),
                    model.kinds(t, k, lane, i, n));
        }
    }

    /** A READING that the TRIPS told last make so, if it had rained from some minute on. */
    private void readAsItWas() {
        int t = pick(0, 3), spot = pick(0, 3), minute = pick(0, 50);
        if (model.world != null && model.told != null && t >= 0 && t < model.things.length
            && minute >= 0 && minute < 100 && random.nextInt(6) != 0) {
            World w = model.world.copy();
            w.rain = random.nextInt(40);
            try {
                Gone gone = new Gone(w, model.told);
                if (gone.wrong == NONE && gone.at(t, minute) != NONE) {
                    spot = gone.at(t, minute);
                }
            } catch (RuntimeException e) {
                // TRIPS of another PORTAGE: any READING will do.
                spot = 0;
            }
        }
        same("reading(" + t + ", " + spot + ", " + minute + ")", real.reading(t, spot, minute),
            model.reading(t, spot, minute));
        if (random.nextInt(3) == 0) {
            int k = pick(0, 4);
            same("back(" + k + ")", real.back(k), model.back(k));
        }
    }

    private void askSoonest() {
        int k = pick(0, 8), what = pick(0, 1), t = pick(0, 3), v = pick(0, 8);
        same("soonest()", real.soonest(), model.soonest());
        same("fewest()", real.fewest(), model.fewest());
        same("cost(" + t + ")", real.cost(t), model.cost(t));
        same("trip(" + k + ", " + what + ")", real.trip(k, what), model.trip(k, what));
        same("help(" + v + ")", real.help(v), model.help(v));
        Row row = model.world == null ? null : soonestOf(model.world);
        for (int j = 0; row != null && j < row.trips.size(); j++) {
            same("trip(" + j + ", 0)", real.trip(j, 0), row.trips.get(j)[0]);
            same("trip(" + j + ", 1)", real.trip(j, 1), row.trips.get(j)[1]);
        }
    }

    private void change() {
        int v = random.nextInt(3) == 0 ? pick(-9, 100) : pick(0, 20), k = pick(-1, 3);
        boolean are = random.nextBoolean();
        switch (random.nextInt(4)) {
            case 0:
                same("bears(" + v + ")", real.bears(v), model.bears(v));
                break;
            case 1:
                same("rain(" + v + ")", real.rain(v), model.rain(v));
                break;
            case 2:
                same("rain(-9)", real.rain(NONE), model.rain(NONE));
                break;
            default:
                same("boards(" + k + ", " + are + ")", real.boards(k, are), model.boards(k, are));
        }
    }

    private void look() {
        int k = pick(-1, 4), what = pick(-1, 3), set = pick(0, 15);
        same("ofStage(" + k + ", " + what + ")", real.ofStage(k, what), model.ofStage(k, what));
        same("ofThing(" + k + ", " + what + ")", real.ofThing(k, what), model.ofThing(k, what));
        same("well(" + set + ")", real.well(set), model.well(set));
        same("many(" + what + ")", real.many(what), model.many(what));
    }

    private void speak() {
        int t = pick(-1, 4), kind = pick(-1, 3);
        same("tell(" + t + ")", real.tell(t), model.tell(t));
        same("hail(" + t + ")", real.hail(t), model.hail(t));
        same("as(" + t + ", " + kind + ")", real.as(t, kind), model.as(t, kind));
        same("trace()", real.trace(), model.trace());
    }

    private void useSheets() {
        int k = pickSheet(), other = pickSheet(), i = pick(-1, 12), j = pick(-1, 12), n = pick(-1, 12);
        int v = random.nextBoolean() ? random.nextInt() : pick(-300, 300), lane = laneFor(k);
        switch (random.nextInt(5)) {
            case 0:
                n = random.nextInt(4) == 0 ? pick(-1, 61) : n;
                lane = pick(-1, 3);
                same("sheet(" + k + ", " + lane + ", " + n + ")", real.sheet(k, lane, n),
                    model.sheet(k, lane, n));
                break;
            case 1:
                if (random.nextInt(3) == 0) {
                    same("lose(" + k + ")", real.lose(k), model.lose(k));
                }
                break;
            case 2:
                same("put(" + k + ", " + i + ", " + v + ")", real.put(k, i, v), model.put(k, i, v));
                break;
            case 3:
                same("copy(" + k + ", " + i + ", " + other + ", " + j + ", " + n + ")",
                    real.copy(k, i, other, j, n), model.copy(k, i, other, j, n));
                break;
            default:
                same("cell(" + k + ", " + i + ", " + lane + ")", real.cell(k, i, lane),
                    model.cell(k, i, lane));
        }
    }

    private void compareSheets() {
        for (int k = 0; k < 4; k++) {
            Object row = model.sheets[k];
            int lane = row == null ? 0 : Model.laneOf(row);
            // Each answer takes two calls, and behind the last one promised an answer is free.
            for (int i = 0; row != null && i <= Model.sizeOf(row) && calls + 2 <= MOST_CALLS; i++) {
                same("cell(" + k + ", " + i + ", " + lane + ")", real.cell(k, i, lane),
                    model.cell(k, i, lane));
            }
        }
    }

    private void goOn() {
        if (random.nextInt(5) != 0) {
            tellPortage();
        }
        while (calls < 400) {
            switch (random.nextInt(12)) {
                case 0:
                    tellPortage();
                    break;
                case 1:
                case 2:
                case 3:
                    useTrips();
                    break;
                case 4:
                    askSoonest();
                    break;
                case 5:
                case 6:
                    change();
                    break;
                case 7:
                    look();
                    break;
                case 8:
                    speak();
                    break;
                default:
                    useSheets();
            }
        }
        if (random.nextInt(8) == 0) {
            compareSheets();
        }
    }

    public static void main(String[] args) {
        int runs = args.length > 0 ? Integer.parseInt(args[0]) : 400;
        for (int run = 0; run < runs; run++) {
            new ModelTest(run).goOn();
        }
        if (args.length > 1) {
            answers.forEach((call, set) -> System.out.println(call + ": " + set.size() + " answers"));
        }
        System.out.println(compared + " answers compared with the model, " + wrong + " wrong");
        if (wrong != 0) {
            System.exit(1);
        }
    }
}
