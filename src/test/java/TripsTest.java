/** Part 2 of the document, trips: the promises 9 to 11, sentence by sentence, and where AT is told. */
public final class TripsTest extends Trial {
    private static final int[] NO_SUCH_SHEETS = {-1, 4, BIG, SMALL};
    private static final int[] NO_SUCH_LANES = {-1, 3, BIG, SMALL};

    // ---------------------------------------------------------------- promise 9: trips

    @Sentence(promise = 9, says = "TRIPS of n such pairs, that are cells of a SHEET from i on (2 n)")
    static void pairsFromACellOn() {
        PortageTrips x = over(TWO);
        for (int lane = 0; lane < 3; lane++) {
            write(x, 3, lane, 9, 9, 9, 1, 3, 2, 3, 9);
            due("two pairs from cell 3 on", x.trips(3, lane, 3, 2, 0), 13);
            due("one pair from cell 3 on", x.trips(3, lane, 3, 1, 0), 8);
            due("no pair from cell 3 on", x.trips(3, lane, 3, 0, 0), 0);
        }
    }

    @Sentence(promise = 9, says = "TRIPS of n such pairs, that are cells of a SHEET from i on (2 n)")
    static void pairsUpToTheLastCell() {
        PortageTrips x = over(TWO);
        x.sheet(1, INTS, 60);
        for (int k = 0; k < 18; k++) {
            x.put(1, 24 + 2 * k, 1 - k % 2);
        }
        due("18 pairs up to cell 59", x.trips(1, INTS, 24, 18, 0), 90);
    }

    @Sentence(promise = 9, says = "MINUTES (what 0)")
    static void minutesOfTrips() {
        PortageTrips x = told(TWO, 1, 3, 0, 0, 1, 0, 2, 3);
        int[] minutes = {0, 8, 13, 18, 23};
        for (int n = 0; n <= 4; n++) {
            due("MINUTES of " + n, minutes(x, n), minutes[n]);
        }
    }

    @Sentence(promise = 9, says = "the FIRST WRONG (1; NONE)")
    static void firstWrongOrNone() {
        PortageTrips x = told(TWO, 1, 3, 2, 3, 2, 0, 1, 0);
        due("of none", firstWrong(x, 0), NONE);
        due("of two that can be", firstWrong(x, 2), NONE);
        due("of three", firstWrong(x, 3), 2);
        due("of four", firstWrong(x, 4), 2);
        int[] pairs = toAndFro(18, 0);
        pairs[34] = 1;
        plan(x, pairs);
        due("17 of 18", firstWrong(x, 17), NONE);
        due("the last of 18", firstWrong(x, 18), 17);
    }

    @Sentence(promise = 9, says = "where he is (2)")
    static void whereHeIs() {
        PortageTrips x = told("g9;52;31;11,t3,f2", 1, 0, 2, 0, 3, 0, 2, 0);
        int[] spots = {0, 1, 2, 3, 2};
        for (int n = 0; n <= 4; n++) {
            due("he behind " + n + " TRIPS", trips(x, n, 2), spots[n]);
        }
    }

    @Sentence(promise = 9,
        says = "THINGS that are at SPOT k at the end (10 and k, as a set; NONE: there is no such SPOT)")
    static void thingsAtSpots() {
        PortageTrips x = told("g9;10;10;10,t1,t1,t1,t1", 1, 14, 2, 6, 3, 4);
        int[] at = {1, 8, 2, 4};
        for (int k = 0; k < 4; k++) {
            due("THINGS at SPOT " + k, trips(x, 3, 10 + k), at[k]);
        }
        take(x, "g9;10,t1");
        plan(x, 1, 1);
        due("the first SPOT is empty", trips(x, 1, 10), 0);
        due("the last SPOT", trips(x, 1, 11), 1);
        due("no SPOT 2", trips(x, 1, 12), NONE);
        due("no SPOT 3", trips(x, 1, 13), NONE);
    }

    @Sentence(promise = 9, says = "of those with a FIRST WRONG: -100 less that (but what 1)")
    static void tripsWithAFirstWrong() {
        PortageTrips x = told(TWO, 2, 3, 1, 0);
        for (int what : new int[] {0, 2, 10, 11, 12, 13}) {
            due("what " + what, trips(x, 2, what), -100);
        }
        due("but what 1", firstWrong(x, 2), 0);
        int[] pairs = toAndFro(18, 0);
        pairs[34] = 1;
        plan(x, pairs);
        due("the last of 18", trips(x, 18, 0), -117);
        dueFault("a FIRST WRONG", x, 0);
    }

    @Sentence(promise = 9, says = "UNKNOWN: SHEET")
    static void tripsOfNoSheet() {
        PortageTrips x = told(TWO, 1, 3);
        for (int sheet : NO_SUCH_SHEETS) {
            due("SHEET " + sheet, x.trips(sheet, INTS, 0, 1, 0), UNKNOWN);
            dueFault("no SHEET", x, 0);
        }
    }

    @Sentence(promise = 9, says = "OUTSIDE: lane")
    static void tripsOfNoLane() {
        PortageTrips x = told(TWO, 1, 3);
        for (int lane : NO_SUCH_LANES) {
            due("lane " + lane, x.trips(1, lane, 0, 1, 0), OUTSIDE);
        }
    }

    @Sentence(promise = 9, says = "n (0 .. 18)")
    static void tripsTooFewTooMany() {
        PortageTrips x = told(TWO, toAndFro(25, 0));
        due("none", trips(x, 0, 0), 0);
        due("18", trips(x, 18, 0), 90);
        for (int n : new int[] {-1, 19, 25, BIG, SMALL}) {
            due("n " + n, trips(x, n, 0), OUTSIDE);
            dueFault("n " + n, x, 0);
        }
    }

    @Sentence(promise = 9, says = "what (0 .. 2, 10 .. 13)")
    static void tripsByNoSuchWhat() {
        PortageTrips x = told("g9;10;10;10,t1", 1, 1, 2, 1, 3, 1);
        int[][] answers = {{0, 3}, {1, NONE}, {2, 3}, {10, 0}, {11, 0}, {12, 0}, {13, 1}};
        for (int[] row : answers) {
            due("what " + row[0], trips(x, 3, row[0]), row[1]);
        }
        for (int what : new int[] {-1, 3, 9, 14, BIG, SMALL}) {
            due("what " + what, trips(x, 3, what), OUTSIDE);
        }
    }

    @Sentence(promise = 9, says = "FAULTS CAST")
    static void tripsOfAnotherLane() {
        for (int lane = 0; lane < 3; lane++) {
            PortageTrips x = over(TWO);
            write(x, 1, lane, 1, 3);
            for (int as = 0; as < 3; as++) {
                due("lane " + lane + " as " + as, x.trips(1, as, 0, 1, 0), lane == as ? 8 : CAST);
                dueFault("lane " + lane + " as " + as, x, lane == as ? 0 : 2);
            }
        }
    }

    @Sentence(promise = 9, says = "NULL")
    static void tripsOfNothing() {
        PortageTrips x = over(TWO);
        for (int lane = 0; lane < 3; lane++) {
            due("nothing as lane " + lane, x.trips(2, lane, 0, 0, 0), NULL);
            dueFault("nothing", x, 1);
        }
        plan(x, 1, 3);
        x.lose(1);
        due("what was lost", trips(x, 1, 0), NULL);
    }

    @Sentence(promise = 9, says = "INDEX")
    static void tripsBeyondTheCells() {
        PortageTrips x = told(TWO, 1, 3, 2, 3, 1);
        int[][] wrong = {{0, 3}, {1, 3}, {2, 2}, {4, 1}, {5, 1}, {6, 0}, {-1, 1}, {-1, 0}, {0, 18}, {BIG, 18},
            {BIG, 0}, {SMALL, 0}};
        for (int[] row : wrong) {
            String what = "i " + row[0] + ", n " + row[1];
            due(what, x.trips(1, INTS, row[0], row[1], 1), INDEX);
            dueFault(what, x, 3);
        }
        due("two pairs of five cells", x.trips(1, INTS, 0, 2, 1), NONE);
        due("none behind the last cell", x.trips(1, INTS, 5, 0, 1), NONE);
    }

    @Sentence(promise = 9, says = "STATE: there is no PORTAGE")
    static void tripsWithoutPortage() {
        PortageTrips x = new PortageTrips();
        plan(x, 1, 0);
        due("one TRIP", trips(x, 1, 0), STATE);
        due("no TRIP", trips(x, 0, 13), STATE);
        dueFault("STATE", x, 0);
    }

    @Sentence(promise = 9, says = "pair by pair UNKNOWN: it is no SPOT")
    static void tripsToNoSpot() {
        PortageTrips x = over(TWO);
        for (int spot : new int[] {-1, 3, 4, BIG, SMALL}) {
            plan(x, 1, 3, 2, 3, spot, 0);
            due("ahead of SPOT " + spot, trips(x, 2, 0), 13);
            due("to SPOT " + spot, trips(x, 3, 0), UNKNOWN);
            due("to SPOT " + spot + ", what 1", trips(x, 3, 1), UNKNOWN);
            dueFault("no SPOT", x, 0);
        }
    }

    @Sentence(promise = 9, says = "pair by pair UNKNOWN: it is no SPOT")
    static void tripsToNoSpotPairByPair() {
        PortageTrips x = told(TWO, 3, 0, 1, 4);
        due("the first pair's SPOT", trips(x, 2, 0), UNKNOWN);
        plan(x, 1, 4, 3, 0);
        due("the first pair's set", trips(x, 2, 0), OUTSIDE);
        plan(x, 3, 4);
        due("a SPOT ahead of its set", trips(x, 1, 0), UNKNOWN);
        plan(x, 2, 0, 3, 0);
        due("no SPOT behind a FIRST WRONG", trips(x, 2, 1), UNKNOWN);
    }

    @Sentence(promise = 9, says = "OUTSIDE: a bit of no THING")
    static void tripsWithNoThing() {
        PortageTrips x = over(TWO);
        for (int set : new int[] {4, 5, 8, 16, -1, BIG, SMALL}) {
            plan(x, 1, 3, 0, set);
            due("with set " + set, trips(x, 2, 0), OUTSIDE);
            due("with set " + set + ", what 1", trips(x, 2, 1), OUTSIDE);
            dueFault("no THING", x, 0);
        }
        take(x, "g9;10,t1,t1,t1,t1");
        plan(x, 1, 15, 0, 16);
        due("all four", firstWrong(x, 1), NONE);
        due("a fifth", firstWrong(x, 2), OUTSIDE);
    }

    // ---------------------------------------------------------------- promise 10: at

    private static int at(PortageTrips x, int t, int m, int n) {
        return x.at(t, m, 1, INTS, 0, n);
    }

    @Sentence(promise = 10, says = "AT a MINUTE m by such TRIPS")
    static void atMinutes() {
        // They take 8, 5, 5 and 3 MINUTES: the last carries FOOD alone, as the plain one may stay.
        PortageTrips x = told(TWO, 1, 3, 0, 0, 1, 0, 2, 2);
        int[][] food = {{0, NONE}, {7, NONE}, {8, 1}, {17, 1}, {18, NONE}, {21, NONE}, {22, 2}, {999, 2}};
        for (int[] row : food) {
            due("FOOD at " + row[0], at(x, 1, row[0], 4), row[1]);
        }
        int[][] plain = {{7, NONE}, {8, 1}, {18, 1}, {999, 1}};
        for (int[] row : plain) {
            due("the plain one at " + row[0], at(x, 0, row[0], 4), row[1]);
        }
    }

    @Sentence(promise = 10, says = "-100 less the FIRST WRONG")
    static void atByWrongTrips() {
        PortageTrips x = told(TWO, 1, 3, 1, 3);
        due("MINUTE 0, ahead of the FIRST WRONG", at(x, 0, 0, 2), -101);
        due("MINUTE 999", at(x, 1, 999, 2), -101);
        dueFault("a FIRST WRONG", x, 0);
        int[] pairs = toAndFro(18, 0);
        pairs[34] = 1;
        plan(x, pairs);
        due("the last of 18", at(x, 0, 0, 18), -117);
    }

    @Sentence(promise = 10, says = "UNKNOWN: THING")
    static void atOfNoThing() {
        PortageTrips x = told(TWO, 1, 3);
        for (int t : new int[] {-1, 2, BIG, SMALL}) {
            due("THING " + t, at(x, t, 0, 1), UNKNOWN);
        }
        due("the last THING", at(x, 1, 8, 1), 1);
        x = new PortageTrips();
        plan(x, 1, 0);
        due("without a PORTAGE", at(x, 0, 0, 1), UNKNOWN);
    }

    @Sentence(promise = 10, says = "OUTSIDE: m (0 .. 999)")
    static void atNoSuchMinute() {
        PortageTrips x = told(TWO, 1, 3);
        due("MINUTE 0", at(x, 0, 0, 1), NONE);
        due("MINUTE 999", at(x, 0, 999, 1), 1);
        for (int m : new int[] {-1, 1000, BIG, SMALL}) {
            due("MINUTE " + m, at(x, 0, m, 1), OUTSIDE);
            dueFault("MINUTE " + m, x, 0);
        }
    }

    @Sentence(promise = 10, says = "else as trips(), without what")
    static void atRefusesAsTrips() {
        refusesAsTrips((x, sheet, lane, i, n) -> x.at(0, 0, sheet, lane, i, n), false);
    }

    // ---------------------------------------------------------------- promise 11: dry

    @Sentence(promise = 11, says = "DRY by such TRIPS (which 0 the upper, 1 the lower number)")
    static void dryByTrips() {
        PortageTrips x = told(TWO, 1, 3, 2, 3);
        dueShare("no TRIP", x, 0, 1, 1);
        dueShare("8 of 10", x, 1, 4, 5);
        dueShare("8 of 10, 9 of 10", x, 2, 18, 25);
    }

    @Sentence(promise = 11, says = "LOST: as trips() (which in the place of what)")
    static void dryRefusesAsTrips() {
        refusesAsTrips((x, sheet, lane, i, n) -> x.dry(sheet, lane, i, n, 0), true);
        refusesAsTrips((x, sheet, lane, i, n) -> x.dry(sheet, lane, i, n, 1), true);
        PortageTrips x = new PortageTrips();
        plan(x, 1, 0);
        due("without a PORTAGE", x.dry(1, INTS, 0, 1, 0), LOST);
        dueFault("STATE", x, 0);
    }

    @Sentence(promise = 11, says = "LOST: as trips() (which in the place of what)")
    static void dryOfNoSuchNumber() {
        PortageTrips x = told(TWO, 1, 3);
        for (int which : new int[] {-1, 2, 10, 13, BIG, SMALL}) {
            due("which " + which, x.dry(1, INTS, 0, 1, which), LOST);
            x.put(2, 0, 0);
            due("which, ahead of CAST", x.dry(1, BYTES, 0, 1, which), LOST);
            dueFault("which " + which, x, 0);
        }
    }

    @Sentence(promise = 11, says = "a FIRST WRONG, too")
    static void dryByWrongTrips() {
        PortageTrips x = told(TWO, 1, 3, 1, 0);
        due("the upper number", x.dry(1, INTS, 0, 2, 0), LOST);
        due("the lower number", x.dry(1, INTS, 0, 2, 1), LOST);
        dueFault("a FIRST WRONG", x, 0);
        dueShare("without it", x, 1, 4, 5);
    }

    // ---------------------------------------------------------------- terms of part 2: a TRIP

    @Sentence(promise = {9, 10, 11}, says = "A TRIP: a SPOT to go to, beside where he is")
    static void tripsGoBesideWhereHeIs() {
        for (int here = 0; here < 4; here++) {
            for (int to = 0; to < 4; to++) {
                PortageTrips x = told("g9;10;10;10,t1", 1, 0, 2, 0, 3, 0, 0, 0);
                x.put(1, 2 * here, to);
                boolean isBeside = to == here - 1 || to == here + 1;
                due("from " + here + " to " + to, firstWrong(x, here + 1), isBeside ? NONE : here);
            }
        }
    }

    @Sentence(promise = {9, 10, 11}, says = "and a set of THINGS that he carries there (perhaps none)")
    static void tripsCarryASet() {
        PortageTrips x = told("g9;10,t1,t1,t1,t1", 1, 0, 0, 0, 1, 15, 0, 6);
        due("none is carried", trips(x, 1, 10), 15);
        due("all are carried", trips(x, 3, 11), 15);
        due("two are carried back", trips(x, 4, 10), 6);
        due("two stay", trips(x, 4, 11), 9);
    }

    @Sentence(promise = {9, 10, 11}, says = "It can be, if all of them are where he is")
    static void tripsCarryWhatIsThere() {
        PortageTrips x = told("g9;10,t1,t1", 1, 1, 0, 2);
        due("THING 1 is not at SPOT 1", firstWrong(x, 2), 1);
        plan(x, 1, 1, 0, 3);
        due("just one of two is at SPOT 1", firstWrong(x, 2), 1);
        plan(x, 1, 1, 0, 0, 1, 1);
        due("THING 0 is at SPOT 0 no more", firstWrong(x, 3), 2);
        plan(x, 1, 1, 0, 1, 1, 3);
        due("both are at SPOT 0", firstWrong(x, 3), NONE);
    }

    @Sentence(promise = {5, 9, 10, 11}, says = "their POUNDS are together no more than what he BEARS")
    static void tripsCarryNoMoreThanHeBears() {
        PortageTrips x = told("g6;10,t3,t4,t6,t7", 1, 4);
        due("6 by 6", firstWrong(x, 1), NONE);
        plan(x, 1, 8);
        due("7 by 6", firstWrong(x, 1), 0);
        plan(x, 1, 3);
        due("3 and 4 by 6", firstWrong(x, 1), 0);
        x.bears(7);
        due("3 and 4 by 7", firstWrong(x, 1), NONE);
        plan(x, 1, 15);
        x.bears(19);
        due("20 by 19", firstWrong(x, 1), 0);
        x.bears(20);
        due("20 by 20", firstWrong(x, 1), NONE);
    }

    @Sentence(promise = {9, 10, 11}, says = "and all that stay where he was are WELL without him")
    static void tripsLeaveAllWell() {
        PortageTrips x = told("g9;10;10,t1,f1,c1", 1, 7, 2, 5);
        due("FOOD alone at SPOT 1", firstWrong(x, 2), 1);
        plan(x, 1, 4, 2, 4);
        due("a CHILD with him, FOOD with a plain one", firstWrong(x, 2), NONE);
        plan(x, 1, 4, 0, 0);
        due("a CHILD alone at SPOT 1", firstWrong(x, 2), 1);
        plan(x, 1, 6, 0, 0);
        due("a CHILD with FOOD at SPOT 1", firstWrong(x, 2), 1);
        plan(x, 1, 6, 0, 4, 1, 5);
        due("FOOD alone at SPOT 1", firstWrong(x, 3), 1);
        plan(x, 1, 6, 2, 6);
        due("none stays at SPOT 1, where all was with him", firstWrong(x, 2), NONE);
        plan(x, 1, 7, 0, 7, 1, 0);
        due("all at SPOT 0, the CHILD with FOOD", firstWrong(x, 3), 2);
    }

    // ---------------------------------------------------------------- terms of part 2: what it TAKES

    @Sentence(promise = {9, 10, 12}, says = "It TAKES, in MINUTES: LONG")
    static void tripsTakeLong() {
        for (int longs = 1; longs <= 9; longs++) {
            PortageTrips x = told("g9;" + longs + "4,t9", 1, 0);
            due("LONG " + longs, minutes(x, 1), longs);
        }
    }

    @Sentence(promise = {9, 10, 12}, says = "if he carries any, also MUD")
    static void tripsTakeMud() {
        for (int mud = 0; mud <= 4; mud++) {
            PortageTrips x = told("g9;5" + mud + ",t1", 1, 1, 0, 1, 1, 0);
            due("MUD " + mud, minutes(x, 1), 5 + mud);
            due("MUD " + mud + " on the way back, too", minutes(x, 2), 10 + 2 * mud);
            due("MUD " + mud + ", but he carries none", minutes(x, 3), 15 + 2 * mud);
        }
    }

    @Sentence(promise = {6, 9, 10, 12}, says = "(twice MUD, if it RAINS as the TRIP begins")
    static void tripsTakeTwiceMudInRain() {
        // 5 and MUD 3 make 8 a TRIP: the second begins in MINUTE 8.
        PortageTrips x = told("g9;53,t1", 1, 1, 0, 1);
        int[][] rows = {{0, 22}, {1, 19}, {7, 19}, {8, 19}, {9, 16}, {NONE, 16}};
        for (int[] row : rows) {
            x.rain(row[0]);
            due("rain from " + row[0] + " on", minutes(x, 2), row[1]);
        }
        x.rain(0);
        plan(x, 1, 0);
        due("he carries none", minutes(x, 1), 5);
    }

    @Sentence(promise = {7, 9, 10, 12}, says = "0 with BOARDS over the STAGE)")
    static void tripsTakeNoMudOnBoards() {
        PortageTrips x = told("g9;54;53,t1", 1, 1, 2, 1);
        x.boards(0, true);
        due("over BOARDS", minutes(x, 1), 5);
        due("over BOARDS and through MUD", minutes(x, 2), 13);
        x.rain(0);
        due("over BOARDS in the rain", minutes(x, 1), 5);
        due("over BOARDS and through MUD in the rain", minutes(x, 2), 16);
        x.boards(0, false);
        due("without BOARDS", minutes(x, 1), 13);
    }

    @Sentence(promise = {9, 10, 12}, says = "and a third of their POUNDS together")
    static void tripsTakeAThirdOfPounds() {
        PortageTrips x = told("g9;10,t1,t2", 1, 1, 0, 0, 1, 2);
        due("1 POUND, none, 2 POUNDS", minutes(x, 3), 3);
        plan(x, 1, 3);
        due("1 and 2 POUNDS together", minutes(x, 1), 2);
        x = over("g9;10,t9,t9,t9,t9");
        x.bears(36);
        plan(x, 1, 15);
        due("36 POUNDS", minutes(x, 1), 13);
    }

    @Sentence(promise = {9, 10, 11, 12, 15, 16}, says = "Quotients are cut")
    static void thirdsAreCut() {
        int[] thirds = {0, 0, 1, 1, 1, 2, 2, 2, 3};
        for (int pounds = 1; pounds <= 9; pounds++) {
            PortageTrips x = told("g9;10,t" + pounds, 1, 1);
            due("a third of " + pounds, minutes(x, 1), 1 + thirds[pounds - 1]);
            due("SOONEST by " + pounds, x.soonest(), 1 + thirds[pounds - 1]);
        }
        due("a third of 4 and 4", minutes(told("g9;10,t4,t4", 1, 3), 1), 3);
        due("a third of 4 and 3", minutes(told("g9;10,t4,t3", 1, 3), 1), 3);
    }

    @Sentence(promise = {6, 9, 10, 11, 12}, says = "It RAINS from a told MINUTE on")
    static void rainsFromAMinuteOn() {
        // 2, 2 and 2 MINUTES in the dry, 3 each in the rain.
        PortageTrips x = told("g9;11,t1", toAndFro(3, 1));
        int[] minutes = {9, 8, 8, 7, 7, 6};
        for (int rain = 0; rain < minutes.length; rain++) {
            x.rain(rain);
            due("rain from " + rain + " on", minutes(x, 3), minutes[rain]);
        }
    }

    @Sentence(promise = {9, 10, 11, 19, 20}, says = "TRIPS told: a row of pairs (SPOT, set)")
    static void tripsArePairs() {
        PortageTrips x = told(TWO, 1, 3, 2, 1);
        due("to SPOT 1 with both", trips(x, 1, 11), 3);
        plan(x, 1, 3, 2, 3);
        due("to SPOT 2 with both", trips(x, 2, 12), 3);
        plan(x, 1, 2);
        due("to SPOT 1 with THING 1", trips(x, 1, 11), 2);
        plan(x, 2, 1);
        due("SPOT 2 is not beside", firstWrong(x, 1), 0);
    }

    @Sentence(promise = {9, 10, 19}, says = "FIRST WRONG: the first that can't be")
    static void firstWrongIsTheFirst() {
        PortageTrips x = told(TWO, 1, 3, 1, 0, 1, 0, 0, 0);
        due("of four", firstWrong(x, 4), 1);
        plan(x, 0, 0, 1, 3);
        due("the very first", firstWrong(x, 2), 0);
    }

    // ---------------------------------------------------------------- terms of part 2: SLIPS

    @Sentence(promise = 11, says = "SLIPS: at each TRIP on which he carries any")
    static void slipsWhereHeCarriesAny() {
        PortageTrips x = told("g9;54,t1", 1, 0, 0, 0, 1, 1, 0, 1);
        dueShare("none is carried", x, 2, 1, 1);
        dueShare("one TRIP with a load", x, 3, 3, 5);
        dueShare("two TRIPS with a load", x, 4, 9, 25);
    }

    @Sentence(promise = 11, says = "with as many tenths of likelihood as MUD is (as it TAKES it)")
    static void slipsByMud() {
        long[][] dry = {{1, 1}, {9, 10}, {4, 5}, {7, 10}, {3, 5}};
        long[][] inRain = {{1, 1}, {4, 5}, {3, 5}, {2, 5}, {1, 5}};
        for (int mud = 0; mud <= 4; mud++) {
            PortageTrips x = told("g9;5" + mud + ",t1", 1, 1);
            dueShare("MUD " + mud, x, 1, dry[mud][0], dry[mud][1]);
            x.rain(1);
            dueShare("MUD " + mud + ", rain behind it", x, 1, dry[mud][0], dry[mud][1]);
            x.rain(0);
            dueShare("MUD " + mud + " in the rain", x, 1, inRain[mud][0], inRain[mud][1]);
            x.boards(0, true);
            dueShare("BOARDS over MUD " + mud, x, 1, 1, 1);
        }
    }

    @Sentence(promise = 11, says = "DRY: how likely none of all TRIPS SLIPS")
    static void dryByAllTrips() {
        PortageTrips x = told("g9;13,t1", toAndFro(18, 1));
        dueShare("seven tenths, 18 times", x, 18, 1628413597910449L, 1000000000000000000L);
        x = told("g9;14;11;12,t1", 1, 1, 2, 1, 3, 1);
        dueShare("6, 9 and 8 tenths", x, 3, 54, 125);
    }

    @Sentence(promise = 11, says = "Shares are told as upper and lower number (above 0) in least terms")
    static void sharesInLeastTerms() {
        dueShare("a whole", told("g9;10,t1", 1, 1), 1, 1, 1);
        PortageTrips x = told("g9;14,t1", toAndFro(18, 1));
        x.rain(0);
        dueShare("a fifth, 18 times", x, 18, 1, 3814697265625L);
        dueShare("a fifth, twice", x, 2, 1, 25);
        x = told("g9;12;14,t1", 1, 1, 2, 1);
        dueShare("8 of 10, 6 of 10", x, 2, 12, 25);
    }

    // ---------------------------------------------------------------- AT, told in part 4

    @Sentence(promise = 10, says = "AT a MINUTE by TRIPS: the SPOT of a THING as it ends")
    static void atIsAsTheMinuteEnds() {
        PortageTrips x = told("g9;10,t1", 1, 1);
        due("as MINUTE 0 ends it is on the way", at(x, 0, 0, 1), NONE);
        due("as MINUTE 1 ends it is there", at(x, 0, 1, 1), 1);
        due("without a TRIP it is at SPOT 0", at(x, 0, 0, 0), 0);
    }

    @Sentence(promise = {10, 19, 20}, says = "NONE: it is on the way")
    static void atNoneOnTheWay() {
        PortageTrips x = told("g9;52,t3,t3", 1, 1);
        for (int m = 0; m < 8; m++) {
            due("carried, at " + m, at(x, 0, m, 1), NONE);
            due("left, at " + m, at(x, 1, m, 1), 0);
        }
        x.reading(0, 0, 3);
        due("no SPOT is right on the way", x.kinds(0, 1, INTS, 0, 1), 0);
        due("no SPOT is right on the way", x.since(1, INTS, 0, 1), 0);
    }

    @Sentence(promise = {10, 19, 20},
        says = "A TRIP that begins in MINUTE b and TAKES so many is on the way "
            + "as MINUTES b to the one ahead of b and so many end")
    static void onTheWayFromToWhen() {
        // The third TRIP begins in 10 and takes 8.
        PortageTrips x = told("g9;52;10,t3,t3", 1, 0, 0, 0, 1, 1, 0, 0);
        due("the MINUTE ahead of b", at(x, 0, 9, 4), 0);
        due("MINUTE b", at(x, 0, 10, 4), NONE);
        due("the one ahead of b and 8", at(x, 0, 17, 4), NONE);
        due("b and 8", at(x, 0, 18, 4), 1);
        x.rain(10);
        due("in the rain: the one ahead of b and 10", at(x, 0, 19, 4), NONE);
        due("in the rain: b and 10", at(x, 0, 20, 4), 1);
    }

    @Sentence(promise = {9, 10, 19, 20}, says = "the next one begins in b and so many")
    static void nextBeginsAtOnce() {
        // 8 MINUTES, then at once 8 more with the same THING: it is at SPOT 1 as none ends.
        PortageTrips x = told("g9;52;52,t3", 1, 1, 2, 1);
        for (int m = 0; m < 16; m++) {
            due("MINUTE " + m, at(x, 0, m, 2), NONE);
        }
        due("MINUTE 16", at(x, 0, 16, 2), 2);
        x.rain(8);
        due("the second begins in 8", minutes(x, 2), 18);
        x.rain(9);
        due("and not later", minutes(x, 2), 16);
    }

    public static void main(String[] args) throws IllegalAccessException {
        run(TripsTest.class);
    }
}
