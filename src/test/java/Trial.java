import java.lang.reflect.InvocationTargetException;
import java.lang.reflect.Method;
import java.util.ArrayList;
import java.util.Arrays;
import java.util.Comparator;
import java.util.List;

/** What the tests of single sentences share: objects put into a state, answers compared. */
abstract class Trial {
    static final int UNKNOWN = -1, OUTSIDE = -2, STATE = -3, FULL = -4, NONE = -9;
    static final int NULL = -11, CAST = -12, INDEX = -13, SIZE = -14;
    static final long LOST = Long.MIN_VALUE;
    static final int BIG = Integer.MAX_VALUE, SMALL = Integer.MIN_VALUE;
    static final int BYTES = 0, SHORTS = 1, INTS = 2;

    /** Five MINUTES and MUD 2, three MINUTES and MUD 1; a plain THING and FOOD; he BEARS all. */
    static final String TWO = "g9;52;31,t3,f2";
    /** One of each kind and a plain one more; he BEARS 6 of their 14 POUNDS. */
    static final String FOUR = "g6;52;31,t3,f2,c4,t5";

    private static int checks;
    private static final List<String> misses = new ArrayList<>();

    static void due(String what, long got, long want) {
        checks++;
        if (got != want) {
            misses.add(what + " answered " + got + ", due is " + want);
        }
    }

    static void dueFault(String what, PortageTrips x, int fault) {
        due("fault() behind " + what, x.fault(), fault);
    }

    // ---- objects in a state

    /** A new row on a SHEET. */
    static void write(PortageTrips x, int sheet, int lane, int... cells) {
        x.sheet(sheet, lane, cells.length);
        for (int i = 0; i < cells.length; i++) {
            x.put(sheet, i, cells[i]);
        }
    }

    static int[] codes(String text) {
        return text.chars().toArray();
    }

    /** Takes a TEXT from the whole of SHEET 0, a row of bytes. */
    static int take(PortageTrips x, String text) {
        write(x, 0, BYTES, codes(text));
        return x.portage(0, BYTES, 0, text.length());
    }

    static PortageTrips over(String text) {
        PortageTrips x = new PortageTrips();
        int things = text.split(",").length - 1;
        due("portage by " + text, take(x, text), things);
        return x;
    }

    /** TRIPS as pairs (SPOT, set) on the whole of SHEET 1, a row of ints. */
    static void plan(PortageTrips x, int... pairs) {
        write(x, 1, INTS, pairs);
    }

    static PortageTrips told(String text, int... pairs) {
        PortageTrips x = over(text);
        plan(x, pairs);
        return x;
    }

    /** n TRIPS to SPOT 1 and back to SPOT 0 by turns, all with one set. */
    static int[] toAndFro(int n, int set) {
        int[] pairs = new int[2 * n];
        for (int k = 0; k < n; k++) {
            pairs[2 * k] = 1 - k % 2;
            pairs[2 * k + 1] = set;
        }
        return pairs;
    }

    // ---- the first n TRIPS of SHEET 1

    static int trips(PortageTrips x, int n, int what) {
        return x.trips(1, INTS, 0, n, what);
    }

    static int minutes(PortageTrips x, int n) {
        return trips(x, n, 0);
    }

    static int firstWrong(PortageTrips x, int n) {
        return trips(x, n, 1);
    }

    static void dueShare(String what, PortageTrips x, int n, long upper, long lower) {
        due(what + ", the upper number", x.dry(1, INTS, 0, n, 0), upper);
        due(what + ", the lower number", x.dry(1, INTS, 0, n, 1), lower);
    }

    static int traceOf(int... bodies) {
        int trace = 0;
        for (int body : bodies) {
            trace = 31 * trace + body;
        }
        return trace;
    }

    // ---- what at(), dry(), since() and kinds() have of trips()

    /** A call by TRIPS, of which the rest is as it should be. */
    interface ByTrips {
        long of(PortageTrips x, int sheet, int lane, int i, int n);
    }

    private static void dueRefused(String what, PortageTrips x, long got, int want, boolean isLong) {
        due(what, got, isLong ? LOST : want);
        dueFault(what, x, want < -10 ? -10 - want : 0);
    }

    /** All refusals and FAULTS of trips() that a call has, too, over a PORTAGE. */
    static void refusesAsTrips(ByTrips call, boolean isLong) {
        refusesNumbers(call, isLong);
        faultsAsTrips(call, isLong);
        refusesPairs(call, isLong);
    }

    private static void refusesNumbers(ByTrips call, boolean isLong) {
        PortageTrips x = told(TWO, toAndFro(25, 0));
        for (int sheet : new int[] {-1, 4, BIG, SMALL}) {
            dueRefused("SHEET " + sheet, x, call.of(x, sheet, INTS, 0, 1), UNKNOWN, isLong);
        }
        for (int lane : new int[] {-1, 3, BIG, SMALL}) {
            dueRefused("lane " + lane, x, call.of(x, 1, lane, 0, 1), OUTSIDE, isLong);
        }
        for (int n : new int[] {-1, 19, 25, BIG, SMALL}) {
            dueRefused("n " + n, x, call.of(x, 1, INTS, 0, n), OUTSIDE, isLong);
        }
        due("n 18 is not refused", call.of(x, 1, INTS, 0, 18) >= 0 ? 1 : 0, 1);
        due("n 0 is not refused", call.of(x, 1, INTS, 0, 0) >= 0 ? 1 : 0, 1);
    }

    private static void faultsAsTrips(ByTrips call, boolean isLong) {
        PortageTrips x = told(TWO, 1, 0, 0, 0, 1);
        dueRefused("another lane", x, call.of(x, 1, BYTES, 9, 1), CAST, isLong);
        dueRefused("another lane", x, call.of(x, 1, SHORTS, 0, 0), CAST, isLong);
        for (int lane = 0; lane < 3; lane++) {
            dueRefused("nothing", x, call.of(x, 2, lane, 0, 0), NULL, isLong);
        }
        int[][] beyond = {{0, 3}, {2, 2}, {4, 1}, {6, 0}, {-1, 0}, {-1, 1}, {BIG, 18}, {BIG, 0}, {SMALL, 0}};
        for (int[] row : beyond) {
            String what = "i " + row[0] + ", n " + row[1];
            dueRefused(what, x, call.of(x, 1, INTS, row[0], row[1]), INDEX, isLong);
        }
        due("the last pair is not refused", call.of(x, 1, INTS, 0, 2) >= 0 ? 1 : 0, 1);
        due("none from the end on is not refused", call.of(x, 1, INTS, 5, 0) >= 0 ? 1 : 0, 1);
    }

    private static void refusesPairs(ByTrips call, boolean isLong) {
        PortageTrips x = over(TWO);
        for (int spot : new int[] {-1, 3, BIG, SMALL}) {
            plan(x, 1, 0, spot, 4);
            dueRefused("SPOT " + spot, x, call.of(x, 1, INTS, 0, 2), UNKNOWN, isLong);
        }
        for (int set : new int[] {4, 16, -1, SMALL}) {
            plan(x, 1, set, 3, 0);
            dueRefused("set " + set, x, call.of(x, 1, INTS, 0, 2), OUTSIDE, isLong);
        }
        plan(x, 2, 0, 3, 0);
        dueRefused("no SPOT behind a FIRST WRONG", x, call.of(x, 1, INTS, 0, 2), UNKNOWN, isLong);
    }

    // ---- the runner

    static List<Method> testsOf(Class<?> tests) {
        List<Method> all = new ArrayList<>();
        for (Method m : tests.getDeclaredMethods()) {
            if (m.isAnnotationPresent(Sentence.class)) {
                all.add(m);
            }
        }
        all.sort(Comparator.comparing(Method::getName));
        return all;
    }

    private static String nameOf(Method test) {
        Sentence of = test.getAnnotation(Sentence.class);
        String promises = of.promise().length == 0 ? "all promises"
            : "promise " + Arrays.toString(of.promise()).replaceAll("[\\[\\]]", "");
        return promises + ", '" + of.says() + "' (" + test.getName() + ")";
    }

    /** Whether a test holds; what is wrong is printed. */
    private static boolean holds(Method test) throws IllegalAccessException {
        checks = 0;
        misses.clear();
        test.setAccessible(true);
        try {
            test.invoke(null);
        } catch (InvocationTargetException e) {
            misses.add("it threw " + e.getCause());
        }
        if (checks == 0) {
            misses.add("it looked at no answer");
        }
        for (String miss : misses) {
            System.out.println(nameOf(test) + ": " + miss);
        }
        return misses.isEmpty();
    }

    static void run(Class<?> tests) throws IllegalAccessException {
        int passed = 0;
        int failed = 0;
        for (Method test : testsOf(tests)) {
            if (holds(test)) {
                passed++;
            } else {
                failed++;
            }
        }
        System.out.println(tests.getName() + ": " + passed + " tests of sentences hold, " + failed + " don't");
        if (failed > 0 || passed == 0) {
            System.exit(1);
        }
    }
}
