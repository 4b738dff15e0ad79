/** The promises 1 to 31, one after the other, with answers worked out by hand from the document. */
public final class PromiseTest {
    private static final int UNKNOWN = -1, OUTSIDE = -2, STATE = -3, FULL = -4, NONE = -9;
    private static final int NULL = -11, CAST = -12, INDEX = -13, SIZE = -14;
    private static final int BIG = Integer.MAX_VALUE, SMALL = Integer.MIN_VALUE;
    private static final long LOST = Long.MIN_VALUE;
    private static final String FOUR = "g6;52;31,t3,f2,c4,t5";

    private static int promise;
    private static int checks;
    private static int wrong;

    private static void due(String what, long got, long want) {
        checks++;
        if (got != want) {
            wrong++;
            System.out.println("promise " + promise + ": " + what + " answered " + got + ", due is " + want);
        }
    }

    /** Cells of a text from `from` on of a new SHEET 0 of ints. */
    private static void write(PortageTrips x, String text, int from) {
        x.sheet(0, 2, from + text.length());
        for (int i = 0; i < text.length(); i++) {
            x.put(0, from + i, text.charAt(i));
        }
    }

    private static int take(PortageTrips x, String text) {
        write(x, text, 0);
        return x.portage(0, 2, 0, text.length());
    }

    private static PortageTrips over(String text) {
        PortageTrips x = new PortageTrips();
        if (take(x, text) < 1) {
            wrong++;
            System.out.println("promise " + promise + ": the text " + text + " was not taken");
        }
        return x;
    }

    /** TRIPS as pairs on SHEET 1, of ints. */
    private static void plan(PortageTrips x, int... pairs) {
        x.sheet(1, 2, pairs.length);
        for (int i = 0; i < pairs.length; i++) {
            x.put(1, i, pairs[i]);
        }
    }

    private static void newObject() {
        PortageTrips x = new PortageTrips();
        for (int what = 0; what < 4; what++) {
            due("many of a new object", x.many(what), 0);
        }
        for (int k = 0; k < 4; k++) {
            due("lose of a new object", x.lose(k), 0);
        }
        due("soonest", x.soonest(), STATE);
        due("ofThing", x.ofThing(0, 0), UNKNOWN);
        due("ofStage", x.ofStage(0, 0), UNKNOWN);
        due("trace", x.trace(), 0);
        due("fault", x.fault(), 0);
    }

    private static void text(String text, int answer) {
        PortageTrips x = new PortageTrips();
        due("portage by " + text, take(x, text), answer);
        due("many(1) then", x.many(1), Math.max(answer, 0));
    }

    private static void portageByTexts() {
        text("g1;10,t1", 1);
        text("g9;94;10;50,t1,f9,c5,t2", 4);
        text(FOUR, 4);
        text("", -100);
        text("x", -100);
        text("g", -101);
        text("g0", -101);
        text("g:", -101);
        text("g6", -102);
        text("g6,t3", -102);
        text("g66", -102);
        text("g6;", -103);
        text("g6;05,t3", -103);
        text("g6;5", -104);
        text("g6;5,t3", -104);
        text("g6;55,t3", -104);
        text("g6;52", -105);
        text("g6;52;", -106);
        text("g6;52,", -106);
        text("g6;52,x3", -106);
        text("g6;52,g3", -106);
        text("g6;52,t", -107);
        text("g6;52,t0", -107);
        text("g6;52,t3x", -108);
        text("g6;52,t3;11", -108);
        text("g6;52,t3,", -109);
        text("g6;52;31;21;11,t3", -111);
        text("g6;52;31;21", -111);
        text("g6;52,t1,t1,t1,t1,t1", -117);
        text("g6;52,t1,t1,t1,t1 ", -117);
        text("g6;52;31;21,t1,t1,t1,t1;", -123);
    }

    private static void portageByCalls() {
        PortageTrips x = new PortageTrips();
        due("no SHEET", x.portage(-1, 9, 0, 0), UNKNOWN);
        due("no SHEET", x.portage(4, 0, 0, 0), UNKNOWN);
        due("no lane", x.portage(0, 3, 0, 0), OUTSIDE);
        due("no lane", x.portage(0, -1, 0, 0), OUTSIDE);
        due("nothing is no CAST", x.portage(0, 1, -1, -1), NULL);
        due("fault", x.fault(), 1);
        write(x, "xxg6;52,t3", 0);
        due("CAST ahead of SIZE", x.portage(0, 1, -1, -1), CAST);
        due("SIZE ahead of INDEX", x.portage(0, 2, -1, -1), SIZE);
        due("fault", x.fault(), 4);
        due("INDEX", x.portage(0, 2, -1, 0), INDEX);
        due("INDEX", x.portage(0, 2, 11, 0), INDEX);
        due("INDEX", x.portage(0, 2, 2, 9), INDEX);
        due("INDEX", x.portage(0, 2, 2, BIG), INDEX);
        due("INDEX", x.portage(0, 2, BIG, BIG), INDEX);
        due("none from the end on", x.portage(0, 2, 10, 0), -100);
        due("fault", x.fault(), 0);
        due("places count from the TEXT's first code", x.portage(0, 2, 2, 7), -107);
        due("from 2 on", x.portage(0, 2, 2, 8), 1);
        due("bears", x.many(2), 6);
        bytesAreCut();
        makesAllAnew();
    }

    private static void bytesAreCut() {
        PortageTrips x = new PortageTrips();
        String text = "g6;52,t3";
        x.sheet(3, 0, 8);
        for (int i = 0; i < 8; i++) {
            x.put(3, i, text.charAt(i) + 256 * i);
        }
        due("a row of bytes", x.portage(3, 0, 0, 8), 1);
    }

    private static void makesAllAnew() {
        PortageTrips x = over(FOUR);
        x.rain(3);
        x.boards(0, true);
        x.bears(30);
        x.reading(0, 0, 0);
        x.tell(0);
        plan(x, 1, 7);
        x.help(1);
        x.cost(1);
        x.since(1, 2, 0, 1);
        x.kinds(0, 1, 2, 0, 1);
        due("a wrong TEXT", take(x, "g6;52"), -105);
        due("a wrong TEXT changes no READINGS", x.many(3), 1);
        due("a wrong TEXT changes no BOARDS", x.ofStage(0, 2), 1);
        due("a wrong TEXT changes nothing he BEARS", x.many(2), 30);
        due("a wrong TEXT changes no THINGS", x.many(1), 4);
        due("a TEXT", take(x, "g7;41,c3"), 1);
        due("READINGS", x.many(3), 0);
        due("STAGES", x.many(0), 1);
        due("BEARS", x.many(2), 7);
        due("BOARDS", x.ofStage(0, 2), 0);
        due("RAIN", x.rain(NONE), NONE);
        due("LONG", x.ofStage(0, 0), 4);
        due("the second STAGE is gone", x.ofStage(1, 0), UNKNOWN);
        due("SOONEST anew", x.soonest(), 6);
        due("TRACE stays", x.trace(), 1);
        due("SHEETS stay", x.cell(0, 0, 2), 'g');
    }

    private static void ofStages() {
        PortageTrips x = over(FOUR);
        due("LONG", x.ofStage(0, 0), 5);
        due("MUD", x.ofStage(0, 1), 2);
        due("LONG", x.ofStage(1, 0), 3);
        due("MUD", x.ofStage(1, 1), 1);
        due("BOARDS", x.ofStage(1, 2), 0);
        x.boards(1, true);
        x.rain(0);
        due("BOARDS", x.ofStage(1, 2), 1);
        due("MUD by the TEXT", x.ofStage(1, 1), 1);
        due("no STAGE", x.ofStage(2, 0), UNKNOWN);
        due("no STAGE", x.ofStage(-1, 9), UNKNOWN);
        due("no what", x.ofStage(0, 3), OUTSIDE);
        due("no what", x.ofStage(0, -1), OUTSIDE);
    }

    private static void ofThings() {
        PortageTrips x = over(FOUR);
        int[] kinds = {0, 1, 2, 0};
        int[] pounds = {3, 2, 4, 5};
        for (int t = 0; t < 4; t++) {
            due("kind", x.ofThing(t, 0), kinds[t]);
            due("POUNDS", x.ofThing(t, 1), pounds[t]);
        }
        due("no THING", x.ofThing(4, 0), UNKNOWN);
        due("no THING", x.ofThing(-1, 9), UNKNOWN);
        due("no what", x.ofThing(0, 2), OUTSIDE);
        due("no what", x.ofThing(0, -1), OUTSIDE);
    }

    private static void bearing() {
        PortageTrips x = new PortageTrips();
        due("OUTSIDE ahead of STATE", x.bears(0), OUTSIDE);
        due("no PORTAGE", x.bears(1), STATE);
        x = over("g5;52,t3,t3");
        due("what he bore", x.bears(1), 5);
        due("what he bore", x.bears(36), 1);
        due("0", x.bears(0), OUTSIDE);
        due("37", x.bears(37), OUTSIDE);
        due("he still BEARS", x.many(2), 36);
        due("SOONEST with 36", x.soonest(), 9);
        x.bears(5);
        due("SOONEST with 5", x.soonest(), 21);
    }

    private static void raining() {
        PortageTrips x = new PortageTrips();
        due("OUTSIDE ahead of STATE", x.rain(-1), OUTSIDE);
        due("no PORTAGE", x.rain(0), STATE);
        due("no PORTAGE", x.rain(NONE), STATE);
        x = over("g9;52;31,t3,f2");
        due("never", x.rain(0), NONE);
        due("from 0 on", x.rain(99), 0);
        due("from 99 on", x.rain(NONE), 99);
        due("never", x.rain(8), NONE);
        due("100", x.rain(100), OUTSIDE);
        due("-8", x.rain(-8), OUTSIDE);
        due("-10", x.rain(-10), OUTSIDE);
        due("from 8 on", x.rain(9), 8);
        due("the second TRIP begins in 8", x.soonest(), 13);
        x.rain(8);
        due("it rains as it begins", x.soonest(), 14);
        x.rain(0);
        due("it rains on both", x.soonest(), 16);
        x.rain(NONE);
        due("no more", x.soonest(), 13);
    }

    private static void boarding() {
        PortageTrips x = new PortageTrips();
        due("no STAGE", x.boards(0, false), UNKNOWN);
        x = over("g9;52;31,t3,f2");
        due("it was so", x.boards(0, false), 0);
        due("laid", x.boards(0, true), 1);
        due("it was so", x.boards(0, true), 0);
        due("SOONEST over them", x.soonest(), 11);
        x.rain(0);
        due("nor does rain matter there", x.soonest(), 12);
        due("taken off", x.boards(0, false), 1);
        due("SOONEST without", x.soonest(), 16);
        due("no STAGE", x.boards(2, true), UNKNOWN);
        due("no STAGE", x.boards(-1, true), UNKNOWN);
    }

    private static void beingWell() {
        PortageTrips x = new PortageTrips();
        due("no PORTAGE", x.well(0), STATE);
        due("OUTSIDE ahead of STATE", x.well(1), OUTSIDE);
        x = over("g6;52,t1,f1,c1,c1");
        int[] well = {0, 1, 0, 3, 0, 5, 2, 3, 0, 9, 2, 3, 12, 13, 2, 3};
        for (int set = 0; set < 16; set++) {
            due("well(" + set + ")", x.well(set), well[set]);
        }
        due("a bit of no THING", x.well(16), OUTSIDE);
        due("a bit of no THING", x.well(17), OUTSIDE);
        due("a bit of no THING", x.well(-1), OUTSIDE);
        due("a bit of no THING", x.well(SMALL), OUTSIDE);
        x = over("g6;52,f1,c1,f1");
        due("FOOD by a CHILD", x.well(3), 1);
        due("a CHILD by FOOD", x.well(6), 4);
        x = over("g6;52,f1,f1");
        due("FOOD by FOOD", x.well(3), 3);
        due("a bit of no THING", x.well(4), OUTSIDE);
    }

    private static void tripsRefused() {
        PortageTrips x = new PortageTrips();
        due("no SHEET", x.trips(4, 9, 0, 0, 0), UNKNOWN);
        due("no lane", x.trips(0, 3, 0, 0, 0), OUTSIDE);
        due("n", x.trips(0, 0, 0, -1, 0), OUTSIDE);
        due("n", x.trips(0, 0, 0, 19, 0), OUTSIDE);
        for (int what : new int[] {-1, 3, 9, 14, BIG, SMALL}) {
            due("what " + what, x.trips(0, 0, 0, 0, what), OUTSIDE);
        }
        due("nothing", x.trips(0, 1, 0, 0, 13), NULL);
        x.sheet(0, 1, 4);
        due("another lane", x.trips(0, 0, 5, 0, 0), CAST);
        due("INDEX ahead of STATE", x.trips(0, 1, 5, 0, 0), INDEX);
        due("INDEX", x.trips(0, 1, -1, 1, 0), INDEX);
        due("2 n cells", x.trips(0, 1, 1, 2, 0), INDEX);
        due("INDEX", x.trips(0, 1, BIG, 18, 0), INDEX);
        due("fault", x.fault(), 3);
        due("no PORTAGE", x.trips(0, 1, 4, 0, 0), STATE);
        due("fault", x.fault(), 0);
        x = over(FOUR);
        plan(x, 2, 0, 3, 16, 0, 16);
        due("no SPOT, though an earlier one can't be", x.trips(1, 2, 0, 3, 1), UNKNOWN);
        due("a bit of no THING", x.trips(1, 2, 4, 1, 1), OUTSIDE);
        due("one alone can't be", x.trips(1, 2, 0, 1, 1), 0);
        plan(x, -1, 0, 1, -1);
        due("no SPOT", x.trips(1, 2, 0, 1, 0), UNKNOWN);
        due("a bit of no THING", x.trips(1, 2, 2, 1, 0), OUTSIDE);
    }

    private static void tripsGone() {
        PortageTrips x = over("g9;52;31,t3,f2,c4");
        plan(x, 1, 7, 2, 5, 1, 0, 2, 2);
        due("FOOD stays alone", x.trips(1, 2, 0, 2, 1), 1);
        due("so that they take none", x.trips(1, 2, 0, 2, 0), -101);
        due("nor is a THING anywhere", x.at(0, 0, 1, 2, 0, 2), -101);
        plan(x, 1, 6, 0, 0, 1, 1);
        due("a CHILD with FOOD", x.trips(1, 2, 0, 3, 1), 1);
        plan(x, 1, 7, 2, 7, 1, 0, 2, 0);
        due("a CHILD with FOOD, with a THING, too", x.trips(1, 2, 0, 4, 1), 2);
        plan(x, 1, 7, 2, 7);
        due("they can be", x.trips(1, 2, 0, 2, 1), NONE);
        due("9 POUNDS over both", x.trips(1, 2, 0, 2, 0), 5 + 2 + 3 + 3 + 1 + 3);
        due("where he is", x.trips(1, 2, 0, 2, 2), 2);
        due("at 0", x.trips(1, 2, 0, 2, 10), 0);
        due("at 1 after one", x.trips(1, 2, 0, 1, 11), 7);
        due("at 2", x.trips(1, 2, 0, 2, 12), 7);
        due("there is no SPOT 3", x.trips(1, 2, 0, 2, 13), NONE);
        x.bears(8);
        due("too heavy", x.trips(1, 2, 0, 2, 1), 0);
        due("too heavy", x.trips(1, 2, 0, 2, 0), -100);
        due("a FIRST WRONG ahead of no SPOT", x.trips(1, 2, 0, 2, 13), -100);
        due("fault", x.fault(), 0);
        tripsOfPlainOnes();
    }

    private static void tripsOfPlainOnes() {
        PortageTrips x = over("g9;52;31;11,t3,t2,t8");
        plan(x, 1, 3, 0, 0, 1, 4, 2, 1, 3, 1);
        due("8 5 9 5 3", x.trips(1, 2, 0, 5, 0), 8 + 5 + 9 + 5 + 3);
        due("at 0", x.trips(1, 2, 0, 5, 10), 0);
        due("at 1", x.trips(1, 2, 0, 5, 11), 6);
        due("at 2", x.trips(1, 2, 0, 5, 12), 0);
        due("at 3", x.trips(1, 2, 0, 5, 13), 1);
        due("from the third cell on: none is at 0", x.trips(1, 2, 2, 1, 1), 0);
        plan(x, 1, 1, 2, 2);
        due("not where he is", x.trips(1, 2, 0, 2, 1), 1);
        plan(x, 2, 0);
        due("two SPOTS on", x.trips(1, 2, 0, 1, 1), 0);
        plan(x, 0, 0);
        due("where he is", x.trips(1, 2, 0, 1, 1), 0);
        plan(x, 1, 5);
        due("11 POUNDS", x.trips(1, 2, 0, 1, 1), 0);
        x.rain(8);
        plan(x, 1, 3, 0, 0, 1, 4, 2, 1, 3, 1);
        due("rain from the second on, that carries none", x.trips(1, 2, 0, 5, 0), 8 + 5 + 11 + 6 + 4);
        x.boards(0, true);
        due("with BOARDS it begins sooner", x.trips(1, 2, 0, 5, 0), 6 + 5 + 7 + 6 + 4);
        int[] many = new int[36];
        for (int k = 0; k < 18; k++) {
            many[2 * k] = 1 - k % 2;
        }
        plan(x, many);
        due("18 TRIPS", x.trips(1, 2, 0, 18, 0), 90);
    }

    private static void placesAtMinutes() {
        PortageTrips x = over("g9;52;31,t3,f2");
        plan(x, 1, 3, 2, 3);
        int[][] both = {{0, NONE}, {7, NONE}, {8, NONE}, {12, NONE}, {13, 2}, {999, 2}};
        for (int[] row : both) {
            due("at " + row[0], x.at(0, row[0], 1, 2, 0, 2), row[1]);
            due("at " + row[0], x.at(1, row[0], 1, 2, 0, 2), row[1]);
        }
        plan(x, 1, 3, 0, 0, 1, 0, 2, 3);
        int[][] halt = {{7, NONE}, {8, 1}, {17, 1}, {18, NONE}, {22, NONE}, {23, 2}};
        for (int[] row : halt) {
            due("at " + row[0], x.at(0, row[0], 1, 2, 0, 4), row[1]);
        }
        due("behind one TRIP all stays", x.at(0, 500, 1, 2, 0, 1), 1);
        due("by no TRIP", x.at(1, 0, 1, 2, 0, 0), 0);
        due("no THING", x.at(2, -1, 9, 9, 0, 0), UNKNOWN);
        due("no minute, ahead of no SHEET", x.at(0, -1, 9, 9, 0, 0), OUTSIDE);
        due("no minute", x.at(0, 1000, 1, 2, 0, 0), OUTSIDE);
        due("no SHEET, ahead of no lane", x.at(0, 0, 9, 9, 0, 0), UNKNOWN);
        due("n", x.at(0, 0, 1, 2, 0, 19), OUTSIDE);
        due("CAST", x.at(0, 0, 1, 1, 0, 1), CAST);
        due("fault", x.fault(), 2);
        due("refused", x.at(5, 0, 1, 1, 0, 1), UNKNOWN);
        due("a refusal of a call that names FAULTS", x.fault(), 0);
        due("INDEX", x.at(0, 0, 1, 2, 7, 1), INDEX);
        due("NULL", x.at(0, 0, 2, 2, 0, 0), NULL);
        plan(x, 1, 0);
        due("a THING alone may stay with FOOD", x.at(0, 5, 1, 2, 0, 1), 0);
        plan(x, 1, 1);
        due("FIRST WRONG", x.at(0, 5, 1, 2, 0, 1), -100);
        plan(x, 3, 1);
        due("no SPOT", x.at(0, 5, 1, 2, 0, 1), UNKNOWN);
    }

    private static void share(PortageTrips x, int n, long upper, long lower) {
        due("the upper number", x.dry(1, 2, 0, n, 0), upper);
        due("the lower number", x.dry(1, 2, 0, n, 1), lower);
    }

    private static void stayingDry() {
        PortageTrips x = over("g9;52;31,t3,f2");
        plan(x, 1, 3, 2, 3);
        share(x, 0, 1, 1);
        share(x, 1, 4, 5);
        share(x, 2, 18, 25);
        x.rain(8);
        share(x, 2, 16, 25);
        x.rain(0);
        share(x, 2, 12, 25);
        x.boards(0, true);
        share(x, 2, 4, 5);
        plan(x, 1, 0, 2, 0);
        share(x, 2, 1, 1);
        due("which", x.dry(1, 2, 0, 2, 2), LOST);
        due("which", x.dry(1, 2, 0, 2, -1), LOST);
        due("CAST", x.dry(1, 1, 0, 2, 0), LOST);
        due("fault", x.fault(), 2);
        due("which ahead of CAST", x.dry(1, 1, 0, 2, 3), LOST);
        due("fault", x.fault(), 0);
        due("NULL", x.dry(2, 2, 0, 0, 0), LOST);
        due("fault", x.fault(), 1);
        due("INDEX", x.dry(1, 2, 5, 0, 0), LOST);
        due("fault", x.fault(), 3);
        plan(x, 2, 0);
        due("a FIRST WRONG", x.dry(1, 2, 0, 1, 0), LOST);
        due("fault", x.fault(), 0);
        due("no PORTAGE", new PortageTrips().dry(0, 0, 0, 0, 0), LOST);
        x = over("g9;13,t1");
        int[] many = new int[36];
        for (int k = 0; k < 18; k++) {
            many[2 * k] = 1 - k % 2;
            many[2 * k + 1] = 1;
        }
        plan(x, many);
        share(x, 18, 1628413597910449L, 1000000000000000000L);
        x.rain(0);
        share(x, 18, 262144L, 3814697265625L);
    }

    private static void beingSoonest() {
        due("no PORTAGE", new PortageTrips().soonest(), STATE);
        due("one TRIP", over("g9;52,t3").soonest(), 8);
        due("three TRIPS", over("g5;52,t3,t3").soonest(), 21);
        due("two STAGES", over("g9;52;31,t3,f2").soonest(), 13);
        due("too heavy", over("g5;52,t6").soonest(), NONE);
        due("FOOD would lie alone", over("g5;52,f3,f3").soonest(), NONE);
        due("5 and 5 POUNDS", over("g6;10,f1,f2,t3,f4").soonest(), 5);
        PortageTrips x = over(FOUR);
        due("a CHILD by FOOD", x.soonest(), NONE);
        x.bears(9);
        due("with 9", x.soonest(), 38);
        x.bears(14);
        due("with 14", x.soonest(), 5 + 2 + 4 + 3 + 1 + 4);
    }

    private static void row(PortageTrips x, int... pairs) {
        for (int k = 0; k < pairs.length / 2; k++) {
            due("the SPOT of TRIP " + k, x.trip(k, 0), pairs[2 * k]);
            due("the set of TRIP " + k, x.trip(k, 1), pairs[2 * k + 1]);
        }
        due("no further one", x.trip(pairs.length / 2, 0), NONE);
        due("no further one", x.trip(pairs.length / 2, 1), NONE);
        due("no further one", x.trip(BIG, 1), NONE);
    }

    private static void tripsOfTheSoonest() {
        PortageTrips x = new PortageTrips();
        due("no PORTAGE", x.trip(0, 0), STATE);
        due("k", x.trip(-1, 2), UNKNOWN);
        due("what", x.trip(0, 2), OUTSIDE);
        due("what", x.trip(0, -1), OUTSIDE);
        row(over("g9;52,t3"), 1, 1);
        row(over("g5;52,t6"));
        row(over("g3;10,t3,t3"), 1, 1, 0, 0, 1, 2);
        row(over("g3;10,t3,t3,t3"), 1, 1, 0, 0, 1, 2, 0, 0, 1, 4);
        row(over("g6;10,f1,f2,t3,f4"), 1, 6, 0, 0, 1, 9);
        // 5, 5 and 2 POUNDS take 7 MINUTES, too, but five TRIPS, though the first set is less.
        row(over("g6;10,t1,t2,t4,t5"), 1, 6, 0, 0, 1, 9);
        row(over("g6;10,c2,t4,t5,t1"), 1, 3, 0, 0, 1, 12);
        x = over(FOUR);
        x.bears(9);
        row(x, 1, 3, 0, 0, 1, 12, 2, 3, 1, 0, 2, 12);
        x.cost(0);
        x.help(9);
        x.fewest();
        row(x, 1, 3, 0, 0, 1, 12, 2, 3, 1, 0, 2, 12);
        // Back for the second first, or on with the first: both take 5, and SPOT 0 is ahead of 2.
        row(over("g1;10;10,t1,t1"), 1, 1, 0, 0, 1, 2, 2, 1, 1, 0, 2, 2);
    }

    private static void beingFewest() {
        due("no PORTAGE", new PortageTrips().fewest(), STATE);
        due("one", over("g9;52,t3").fewest(), 1);
        due("three", over("g5;52,t3,t3").fewest(), 3);
        due("none", over("g5;52,t6").fewest(), NONE);
        PortageTrips x = over(FOUR);
        due("none", x.fewest(), NONE);
        x.bears(9);
        due("six", x.fewest(), 6);
        x.rain(0);
        due("six in the rain, too", x.fewest(), 6);
        x.bears(36);
        due("two", x.fewest(), 2);
        take(x, "g1;10;10;10,t1,t1");
        due("three over each", x.fewest(), 9);
    }

    private static void costs() {
        PortageTrips x = over("g9;52;31,t3,f2");
        due("the THING: 13 less 11", x.cost(0), 1002);
        due("the FOOD: 13 less 13", x.cost(1), 1000);
        due("no THING", x.cost(2), UNKNOWN);
        due("no THING", x.cost(-1), UNKNOWN);
        due("SOONEST as ever", x.soonest(), 13);
        due("no PORTAGE", new PortageTrips().cost(0), UNKNOWN);
        due("the one there is", over("g9;52,t3").cost(0), NONE);
        x = over("g5;52,t6,t3");
        due("none with it", x.cost(0), NONE);
        due("none with it", x.cost(1), NONE);
        due("it helps", over("g6;10,f1,f2,t3,f4").cost(0), 999);
        x = over("g5;10,f4,t1,f4,t1");
        due("SOONEST: FOOD and a plain one each time", x.soonest(), 5);
        due("none without a plain one", x.cost(1), NONE);
        due("none without a plain one", x.cost(3), NONE);
        due("5 less 4", x.cost(0), 1001);
        x = over("g9;52;31,t3,f2");
        x.rain(8);
        due("in the rain: 14 less 11", x.cost(0), 1003);
    }

    private static void helps() {
        PortageTrips x = new PortageTrips();
        due("no PORTAGE", x.help(0), STATE);
        due("OUTSIDE ahead of STATE", x.help(37), OUTSIDE);
        x = over("g5;52,t3,t3");
        due("none more", x.help(0), 0);
        due("21 less 9", x.help(1), 12);
        due("as much", x.help(36), 12);
        due("-1", x.help(-1), OUTSIDE);
        due("37", x.help(37), OUTSIDE);
        due("he BEARS as ever", x.many(2), 5);
        due("SOONEST as ever", x.soonest(), 21);
        due("none now", over("g5;52,t6").help(1), NONE);
        x = over("g9;10,t9,t9,t9,t9");
        x.bears(27);
        due("1 and 9, 1, 1 and 3: less 1 and 12", x.help(9), 2);
        x.bears(36);
        due("beyond 36", x.help(36), 0);
    }

    private static void readings() {
        PortageTrips x = new PortageTrips();
        due("no THING", x.reading(0, 0, 0), UNKNOWN);
        x = over("g9;52;31,t3,f2");
        due("no THING", x.reading(2, 0, 100), UNKNOWN);
        due("no THING", x.reading(-1, 0, 0), UNKNOWN);
        due("no SPOT", x.reading(0, 3, 100), UNKNOWN);
        due("no SPOT", x.reading(0, -1, 0), UNKNOWN);
        due("minute", x.reading(0, 0, 100), OUTSIDE);
        due("minute", x.reading(0, 0, -1), OUTSIDE);
        for (int k = 0; k < 8; k++) {
            due("its number", x.reading(k % 2, k % 3, 99 * (k % 2)), k);
        }
        due("full", x.reading(0, 0, 0), FULL);
        due("OUTSIDE ahead of FULL", x.reading(0, 0, 100), OUTSIDE);
        due("READINGS", x.many(3), 8);
        x.back(1);
        due("one more", x.reading(0, 0, 0), 7);
    }

    private static void backs() {
        PortageTrips x = new PortageTrips();
        due("none", x.back(0), 0);
        due("more than there are", x.back(1), OUTSIDE);
        x = over("g9;52;31,t3,f2");
        plan(x, 1, 3);
        x.reading(0, 1, 8);
        x.reading(0, 0, 50);
        x.reading(0, 0, 51);
        due("more than there are", x.back(4), OUTSIDE);
        due("-1", x.back(-1), OUTSIDE);
        due("none", x.back(0), 3);
        due("what is read can't be", x.kinds(0, 1, 2, 0, 1), 0);
        due("the last one", x.back(1), 2);
        due("what is read can't be", x.kinds(0, 1, 2, 0, 1), 0);
        due("the last one", x.back(1), 1);
        due("what is left can be", x.kinds(0, 1, 2, 0, 1), 7);
        due("all", x.back(1), 0);
        due("none", x.many(3), 0);
    }

    private static void rainedSince() {
        int all = Integer.MAX_VALUE;
        PortageTrips x = over("g9;52;31,t3,f2");
        plan(x, 1, 3, 2, 3);
        due("no READINGS", x.since(1, 2, 0, 2), all);
        x.reading(0, 2, 13);
        due("not ahead of 9", x.since(1, 2, 0, 2), all & ~0x1ff);
        x.rain(0);
        due("in place of as it is", x.since(1, 2, 0, 2), all & ~0x1ff);
        x.back(1);
        x.reading(1, 2, 14);
        due("not ahead of 1", x.since(1, 2, 0, 2), all & ~1);
        x.reading(1, 2, 13);
        due("both", x.since(1, 2, 0, 2), all & ~0x1ff);
        x.reading(1, 0, 13);
        due("they are at odds", x.since(1, 2, 0, 2), 0);
        x.back(3);
        x.reading(0, 1, 8);
        due("as the next one begins it is on the way", x.since(1, 2, 0, 2), 0);
        due("by the first alone", x.since(1, 2, 0, 1), all & ~1);
        x.back(1);
        plan(x, 1, 3, 1, 3);
        due("they can't be", x.since(1, 2, 0, 2), 0);
        due("CAST", x.since(1, 0, 0, 2), CAST);
        due("fault", x.fault(), 2);
        due("no SHEET", x.since(4, 2, 0, 2), UNKNOWN);
        due("fault", x.fault(), 0);
        due("n", x.since(1, 2, 0, 19), OUTSIDE);
        due("INDEX", x.since(1, 2, 1, 2), INDEX);
        due("NULL", x.since(3, 2, 1, 2), NULL);
        plan(x, 3, 0);
        due("no SPOT", x.since(1, 2, 0, 1), UNKNOWN);
        plan(x, 1, 4);
        due("a bit of no THING", x.since(1, 2, 0, 1), OUTSIDE);
        x = new PortageTrips();
        x.sheet(0, 0, 0);
        due("no PORTAGE", x.since(0, 0, 0, 0), STATE);
        due("RAIN is as it was", over(FOUR).rain(NONE), NONE);
    }

    private static void kindsOfThings() {
        PortageTrips x = over("g9;52;31,t3,f2");
        plan(x, 1, 2, 0, 0, 1, 1);
        due("THING 0 stays alone: plain", x.kinds(0, 1, 2, 0, 1), 1);
        due("THING 1 as well", x.kinds(1, 1, 2, 0, 3), 1);
        due("whatever THING 1 is, if it is carried", x.kinds(1, 1, 2, 0, 1), 7);
        due("FOOD alone, if the other one is what it is", x.kinds(0, 1, 2, 0, 3), 0);
        plan(x, 1, 3, 0, 0);
        due("THING 0 with FOOD: no CHILD", x.kinds(0, 1, 2, 0, 2), 3);
        due("THING 1 with a plain one: any", x.kinds(1, 1, 2, 0, 2), 7);
        x.reading(0, 1, 7);
        due("it was not there yet", x.kinds(1, 1, 2, 0, 2), 0);
        x.back(1);
        x.reading(0, 1, 8);
        due("it was", x.kinds(1, 1, 2, 0, 2), 7);
        x.rain(0);
        due("not in the rain", x.kinds(1, 1, 2, 0, 2), 0);
        due("it is FOOD as ever", x.ofThing(1, 0), 1);
        due("no THING", x.kinds(2, 9, 9, 0, 0), UNKNOWN);
        due("no SHEET", x.kinds(1, 9, 9, 0, 0), UNKNOWN);
        due("no lane", x.kinds(1, 1, 9, 0, 0), OUTSIDE);
        due("n", x.kinds(1, 1, 2, 0, -1), OUTSIDE);
        due("NULL", x.kinds(1, 2, 2, 0, 0), NULL);
        due("fault", x.fault(), 1);
        due("refused", x.kinds(-1, 2, 2, 0, 0), UNKNOWN);
        due("fault", x.fault(), 0);
        due("CAST", x.kinds(1, 1, 1, 0, 0), CAST);
        due("INDEX", x.kinds(1, 1, 2, 5, 0), INDEX);
    }

    private static void sheets() {
        PortageTrips x = new PortageTrips();
        due("no SHEET", x.sheet(-1, 9, 61), UNKNOWN);
        due("no SHEET", x.sheet(4, 0, 0), UNKNOWN);
        due("lane", x.sheet(0, 3, -1), OUTSIDE);
        due("lane", x.sheet(0, -1, 0), OUTSIDE);
        due("61", x.sheet(0, 0, 61), OUTSIDE);
        due("SIZE", x.sheet(0, 0, -1), SIZE);
        due("fault", x.fault(), 4);
        due("SIZE", x.sheet(0, 0, SMALL), SIZE);
        due("it still has nothing", x.lose(0), 0);
        due("60", x.sheet(0, 2, 60), 1);
        due("fault", x.fault(), 0);
        x.put(0, 59, 7);
        due("a wrong one changes nothing", x.sheet(0, 0, -1), SIZE);
        due("cell", x.cell(0, 59, 2), 7);
        due("a new row", x.sheet(0, 2, 60), 1);
        due("0 at first", x.cell(0, 59, 2), 0);
        due("none", x.sheet(0, 1, 0), 1);
        due("no cell", x.cell(0, 0, 1), LOST);
        due("fault", x.fault(), 3);
    }

    private static void losing() {
        PortageTrips x = new PortageTrips();
        due("nothing", x.lose(0), 0);
        x.sheet(0, 0, 0);
        due("a row of none", x.lose(0), 1);
        due("nothing", x.lose(0), 0);
        due("no SHEET", x.lose(4), UNKNOWN);
        due("no SHEET", x.lose(-1), UNKNOWN);
        x.put(0, 0, 0);
        due("it names no FAULTS", x.lose(9) + x.lose(1), UNKNOWN);
        due("so that fault stays", x.fault(), 1);
    }

    private static void putting() {
        PortageTrips x = new PortageTrips();
        due("no SHEET", x.put(4, 0, 0), UNKNOWN);
        due("nothing", x.put(0, -1, 0), NULL);
        for (int lane = 0; lane < 3; lane++) {
            x.sheet(lane, lane, 2);
            due("put", x.put(lane, 1, 0x12348899), 1);
            due("INDEX", x.put(lane, 2, 1), INDEX);
            due("fault", x.fault(), 3);
            due("INDEX", x.put(lane, -1, 1), INDEX);
            due("put", x.put(lane, 0, -1), 1);
            due("fault", x.fault(), 0);
            due("-1", x.cell(lane, 0, lane), -1);
        }
        due("cut to a byte", x.cell(0, 1, 0), (byte) 0x99);
        due("cut to a short", x.cell(1, 1, 1), (short) 0x8899);
        due("an int", x.cell(2, 1, 2), 0x12348899);
    }

    private static void cells() {
        PortageTrips x = new PortageTrips();
        due("no SHEET", x.cell(4, 0, 0), LOST);
        due("fault", x.fault(), 0);
        due("nothing is no CAST", x.cell(0, 0, 1), LOST);
        due("fault", x.fault(), 1);
        x.sheet(0, 1, 3);
        x.put(0, 2, SMALL + 5);
        due("cell", x.cell(0, 2, 1), 5);
        due("fault", x.fault(), 0);
        due("CAST ahead of INDEX", x.cell(0, 3, 2), LOST);
        due("fault", x.fault(), 2);
        due("lane", x.cell(0, 0, 3), LOST);
        due("fault", x.fault(), 0);
        due("INDEX", x.cell(0, 3, 1), LOST);
        due("fault", x.fault(), 3);
        due("INDEX", x.cell(0, -1, 1), LOST);
        due("fault", x.fault(), 3);
    }

    private static void copies() {
        PortageTrips x = new PortageTrips();
        due("no SHEET", x.copy(4, 0, 0, 0, 0), UNKNOWN);
        due("no SHEET", x.copy(0, 0, -1, 0, 0), UNKNOWN);
        due("the first is nothing", x.copy(0, -1, 1, 0, 0), NULL);
        x.sheet(0, 0, 5);
        due("the other is nothing", x.copy(0, -1, 1, 0, 0), NULL);
        x.sheet(1, 1, 3);
        due("unlike LANES", x.copy(0, -1, 1, 0, 0), CAST);
        due("fault", x.fault(), 2);
        x.sheet(1, 0, 3);
        due("i", x.copy(0, -1, 1, 0, 0), INDEX);
        due("i", x.copy(0, 6, 1, 0, 0), INDEX);
        due("j", x.copy(0, 0, 1, -1, 0), INDEX);
        due("j", x.copy(0, 0, 1, 4, 0), INDEX);
        due("n", x.copy(0, 0, 1, 0, -1), INDEX);
        due("n", x.copy(0, 0, 1, 0, SMALL), INDEX);
        due("n", x.copy(0, 0, 1, 0, 4), INDEX);
        due("n", x.copy(1, 0, 0, 0, 4), INDEX);
        due("n", x.copy(0, 1, 1, 1, BIG), INDEX);
        due("fault", x.fault(), 3);
        due("none at the ends", x.copy(0, 5, 1, 3, 0), 0);
        due("fault", x.fault(), 0);
        for (int i = 0; i < 5; i++) {
            x.put(0, i, 10 + i);
        }
        due("two", x.copy(0, 3, 1, 1, 2), 2);
        int[] second = {0, 13, 14};
        for (int i = 0; i < 3; i++) {
            due("cell", x.cell(1, i, 0), second[i]);
        }
        due("over itself, up", x.copy(0, 0, 0, 1, 4), 4);
        int[] up = {10, 10, 11, 12, 13};
        for (int i = 0; i < 5; i++) {
            due("as they were", x.cell(0, i, 0), up[i]);
        }
        due("over itself, down", x.copy(0, 2, 0, 0, 3), 3);
        int[] down = {11, 12, 13, 12, 13};
        for (int i = 0; i < 5; i++) {
            due("as they were", x.cell(0, i, 0), down[i]);
        }
    }

    private static int traceOf(int... bodies) {
        int trace = 0;
        for (int body : bodies) {
            trace = 31 * trace + body;
        }
        return trace;
    }

    private static void telling() {
        PortageTrips x = over(FOUR);
        due("a THING", x.tell(0), 3);
        due("trace", x.trace(), traceOf(1));
        due("FOOD", x.tell(1), 102);
        due("trace", x.trace(), traceOf(1, 2, 1));
        due("a CHILD", x.tell(2), 108);
        due("trace", x.trace(), traceOf(1, 2, 1, 3, 2, 1, 1));
        due("no THING", x.tell(4), UNKNOWN);
        due("no THING", x.tell(-1), UNKNOWN);
        due("trace", x.trace(), traceOf(1, 2, 1, 3, 2, 1, 1));
    }

    private static void hailing() {
        PortageTrips x = over(FOUR);
        due("a THING: its number", x.hail(0), 0);
        due("FOOD: its number", x.hail(1), 1);
        due("a CHILD", x.hail(2), 60);
        due("a THING: its number", x.hail(3), 3);
        due("trace", x.trace(), traceOf(4, 4, 5, 4));
        due("no THING", x.hail(4), UNKNOWN);
        due("no THING", x.hail(-1), UNKNOWN);
        due("trace", x.trace(), traceOf(4, 4, 5, 4));
    }

    private static void takenAs() {
        PortageTrips x = over(FOUR);
        int[][] answers = {{1, CAST, CAST}, {1, 1, CAST}, {1, 1, 1}};
        for (int t = 0; t < 3; t++) {
            for (int kind = 0; kind < 3; kind++) {
                due("as(" + t + ", " + kind + ")", x.as(t, kind), answers[t][kind]);
                due("fault", x.fault(), answers[t][kind] == CAST ? 2 : 0);
            }
        }
        x.as(0, 2);
        due("no THING", x.as(4, 9), UNKNOWN);
        due("fault", x.fault(), 0);
        x.as(0, 2);
        due("no kind", x.as(0, 3), OUTSIDE);
        due("fault", x.fault(), 0);
        due("no kind", x.as(0, -1), OUTSIDE);
    }

    private static void traces() {
        PortageTrips x = over(FOUR);
        due("at first", x.trace(), 0);
        int trace = 0;
        for (int k = 0; k < 9; k++) {
            x.tell(2);
            x.hail(2);
            for (int body : new int[] {3, 2, 1, 1, 5}) {
                trace = 31 * trace + body;
            }
        }
        due("it wraps", x.trace(), trace);
        x.as(0, 0);
        x.ofThing(0, 0);
        x.soonest();
        due("others leave none", x.trace(), trace);
    }

    private static void faults() {
        PortageTrips x = new PortageTrips();
        due("ahead of any", x.fault(), 0);
        x.put(0, 0, 0);
        due("NULL", x.fault(), 1);
        x.many(0);
        x.soonest();
        x.reading(0, 0, 0);
        x.tell(0);
        x.hail(0);
        x.well(0);
        x.lose(0);
        x.ofStage(0, 0);
        x.bears(0);
        x.rain(0);
        x.boards(0, true);
        x.trip(0, 0);
        x.fewest();
        x.cost(0);
        x.help(0);
        x.back(0);
        due("calls that name none leave it", x.fault(), 1);
        due("it stays", x.fault(), 1);
        for (int which = 0; which < 11; which++) {
            x.put(0, 0, 0);
            refuse(x, which);
            due("refused by call " + which, x.fault(), 0);
        }
    }

    private static void refuse(PortageTrips x, int which) {
        switch (which) {
            case 0:
                x.portage(4, 0, 0, 0);
                break;
            case 1:
                x.trips(4, 0, 0, 0, 0);
                break;
            case 2:
                x.at(0, 0, 0, 0, 0, 0);
                break;
            case 3:
                x.dry(4, 0, 0, 0, 0);
                break;
            case 4:
                x.since(4, 0, 0, 0);
                break;
            case 5:
                x.kinds(0, 0, 0, 0, 0);
                break;
            case 6:
                x.sheet(0, 3, 0);
                break;
            case 7:
                x.put(4, 0, 0);
                break;
            case 8:
                x.cell(4, 0, 0);
                break;
            case 9:
                x.copy(4, 0, 0, 0, 0);
                break;
            default:
                x.as(0, 0);
        }
    }

    private static void counts() {
        PortageTrips x = over(FOUR);
        due("STAGES", x.many(0), 2);
        due("THINGS", x.many(1), 4);
        due("BEARS", x.many(2), 6);
        due("READINGS", x.many(3), 0);
        x.reading(0, 0, 0);
        x.bears(20);
        due("BEARS", x.many(2), 20);
        due("READINGS", x.many(3), 1);
        due("what", x.many(4), OUTSIDE);
        due("what", x.many(-1), OUTSIDE);
        due("what, of a new object", new PortageTrips().many(4), OUTSIDE);
    }

    private static void constants() {
        due("UNKNOWN", PortageTrips.UNKNOWN, -1);
        due("OUTSIDE", PortageTrips.OUTSIDE, -2);
        due("STATE", PortageTrips.STATE, -3);
        due("FULL", PortageTrips.FULL, -4);
        due("NONE", PortageTrips.NONE, -9);
        due("LOST", PortageTrips.LOST, Long.MIN_VALUE);
    }

    private static final Runnable[][] PROMISES = {
        {PromiseTest::constants}, {PromiseTest::newObject},
        {PromiseTest::portageByTexts, PromiseTest::portageByCalls}, {PromiseTest::ofStages},
        {PromiseTest::ofThings}, {PromiseTest::bearing}, {PromiseTest::raining},
        {PromiseTest::boarding}, {PromiseTest::beingWell},
        {PromiseTest::tripsRefused, PromiseTest::tripsGone}, {PromiseTest::placesAtMinutes},
        {PromiseTest::stayingDry}, {PromiseTest::beingSoonest}, {PromiseTest::tripsOfTheSoonest},
        {PromiseTest::beingFewest}, {PromiseTest::costs}, {PromiseTest::helps},
        {PromiseTest::readings}, {PromiseTest::backs}, {PromiseTest::rainedSince},
        {PromiseTest::kindsOfThings}, {PromiseTest::sheets}, {PromiseTest::losing},
        {PromiseTest::putting}, {PromiseTest::cells}, {PromiseTest::copies},
        {PromiseTest::telling}, {PromiseTest::hailing}, {PromiseTest::takenAs},
        {PromiseTest::traces}, {PromiseTest::faults}, {PromiseTest::counts},
    };

    public static void main(String[] args) {
        for (promise = 0; promise < PROMISES.length; promise++) {
            for (Runnable part : PROMISES[promise]) {
                part.run();
            }
        }
        System.out.println(checks + " answers, " + wrong + " wrong");
        if (wrong != 0) {
            System.exit(1);
        }
    }
}
