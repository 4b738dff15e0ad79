/** Part 3 of the document, the soonest: the promises 12 to 16, sentence by sentence. */
public final class SoonestTest extends Trial {
    /** Four heavy THINGS over three long STAGES full of mud, one by one: nothing takes longer. */
    private static final String LONGEST = "g9;94;94;94,t9,t9,t9,t9";
    /** STAGE 1 alone is muddy, and each of two THINGS is a load of its own. */
    private static final String MUD_AHEAD = "g1;10;14,t1,t1";

    private static void dueRow(String what, PortageTrips x, int... pairs) {
        for (int k = 0; k < pairs.length / 2; k++) {
            due(what + ": the SPOT of TRIP " + k, x.trip(k, 0), pairs[2 * k]);
            due(what + ": the set of TRIP " + k, x.trip(k, 1), pairs[2 * k + 1]);
        }
        due(what + ": no further SPOT", x.trip(pairs.length / 2, 0), NONE);
        due(what + ": no further set", x.trip(pairs.length / 2, 1), NONE);
    }

    // ---------------------------------------------------------------- promise 12: soonest

    @Sentence(promise = 12, says = "SOONEST")
    static void soonestFromTheLeastToTheMost() {
        due("the least there is", over("g1;10,t1").soonest(), 1);
        due("one TRIP", over("g9;52,t3").soonest(), 8);
        due("two STAGES", over(TWO).soonest(), 13);
        due("there, back and there", over("g5;52,t3,t3").soonest(), 21);
        PortageTrips x = over(LONGEST);
        due("16 loaded, 9 empty over each STAGE", x.soonest(), 3 * (4 * 16 + 3 * 9));
        x.rain(0);
        due("20 loaded, 9 empty over each STAGE", x.soonest(), 3 * (4 * 20 + 3 * 9));
    }

    @Sentence(promise = 12, says = "NONE: by none")
    static void soonestByNoTrips() {
        PortageTrips x = over("g5;52,t6");
        due("too heavy by one", x.soonest(), NONE);
        x.bears(6);
        due("not too heavy any more", x.soonest(), 9);
        due("FOOD would lie alone", over("g5;52,f3,f3").soonest(), NONE);
        due("a CHILD would be alone", over("g5;52,c3,c3").soonest(), NONE);
        due("a CHILD would be with FOOD", over(FOUR).soonest(), NONE);
        due("the last STAGE matters, too", over("g5;52;31,t3,t6").soonest(), NONE);
    }

    @Sentence(promise = 12, says = "STATE: there is no PORTAGE")
    static void soonestWithoutPortage() {
        PortageTrips x = new PortageTrips();
        due("of a new object", x.soonest(), STATE);
        take(x, "g6;52");
        due("behind a TEXT that is not taken", x.soonest(), STATE);
    }

    // ---------------------------------------------------------------- promise 13: trip

    @Sentence(promise = 13, says = "TRIP k (0 on) of the SOONEST: the SPOT (what 0), the set (1)")
    static void tripsOfTheSoonest() {
        dueRow("one TRIP", over("g9;52,t3"), 1, 1);
        dueRow("two STAGES", over(TWO), 1, 3, 2, 3);
        PortageTrips x = over(FOUR);
        x.bears(9);
        dueRow("with a CHILD", x, 1, 3, 0, 0, 1, 12, 2, 3, 1, 0, 2, 12);
        x.help(5);
        x.cost(0);
        x.fewest();
        dueRow("behind what was asked meanwhile", x, 1, 3, 0, 0, 1, 12, 2, 3, 1, 0, 2, 12);
        x.bears(14);
        dueRow("all at once", x, 1, 15, 2, 15);
    }

    @Sentence(promise = 13, says = "NONE: there are fewer, none")
    static void tripsBeyondTheSoonest() {
        PortageTrips x = over("g5;52,t3,t3");
        due("the last SPOT", x.trip(2, 0), 1);
        for (int k : new int[] {3, 4, 1023, 1024, BIG}) {
            due("the SPOT of TRIP " + k, x.trip(k, 0), NONE);
            due("the set of TRIP " + k, x.trip(k, 1), NONE);
        }
        x.bears(2);
        due("no SPOT, as there is no SOONEST", x.trip(0, 0), NONE);
        due("no set, as there is no SOONEST", x.trip(0, 1), NONE);
        x = over(LONGEST);
        due("the last of 21", x.trip(20, 0), 3);
        due("behind the last of 21", x.trip(21, 0), NONE);
    }

    @Sentence(promise = 13, says = "UNKNOWN: k below 0")
    static void tripBelowTheFirst() {
        PortageTrips x = over(TWO);
        due("TRIP -1", x.trip(-1, 0), UNKNOWN);
        due("TRIP -1", x.trip(-1, 1), UNKNOWN);
        due("the least k", x.trip(SMALL, 0), UNKNOWN);
        due("without a PORTAGE", new PortageTrips().trip(-1, 0), UNKNOWN);
    }

    @Sentence(promise = 13, says = "OUTSIDE: what")
    static void tripByNoSuchWhat() {
        PortageTrips x = over(TWO);
        for (int what : new int[] {-1, 2, BIG, SMALL}) {
            due("what " + what, x.trip(0, what), OUTSIDE);
            due("what " + what + " behind the last", x.trip(9, what), OUTSIDE);
        }
    }

    @Sentence(promise = 13, says = "STATE: there is no PORTAGE")
    static void tripWithoutPortage() {
        PortageTrips x = new PortageTrips();
        due("the first SPOT", x.trip(0, 0), STATE);
        due("the set of one that is far off", x.trip(BIG, 1), STATE);
    }

    // ---------------------------------------------------------------- promise 14: fewest

    @Sentence(promise = 14, says = "FEWEST")
    static void fewestFromOneTo21() {
        due("one", over("g1;10,t1").fewest(), 1);
        due("one a STAGE", over(TWO).fewest(), 2);
        due("there, back and there", over("g5;52,t3,t3").fewest(), 3);
        due("seven a STAGE", over(LONGEST).fewest(), 21);
    }

    @Sentence(promise = 14, says = "NONE: by none")
    static void fewestByNoTrips() {
        PortageTrips x = over("g5;52,t6");
        due("too heavy by one", x.fewest(), NONE);
        x.bears(6);
        due("not too heavy any more", x.fewest(), 1);
        due("FOOD would lie alone", over("g5;52,f3,f3").fewest(), NONE);
    }

    @Sentence(promise = 14, says = "STATE: there is no PORTAGE")
    static void fewestWithoutPortage() {
        due("of a new object", new PortageTrips().fewest(), STATE);
    }

    // ---------------------------------------------------------------- promise 15: cost

    @Sentence(promise = 15, says = "COST, and 1000")
    static void costAboveAndBelow() {
        PortageTrips x = over(TWO);
        due("13 less 11", x.cost(0), 1002);
        due("13 less 13", x.cost(1), 1000);
        // FOOD of one POUND lets the loads be 5 and 5; without it they are 6 and 3.
        due("5 less 6", over("g6;10,f1,f2,t3,f4").cost(0), 999);
        x = over(LONGEST);
        due("273 less 198", x.cost(3), 1075);
    }

    @Sentence(promise = 15, says = "NONE: there is no SOONEST with it")
    static void costOfWhatCanNotBeCarried() {
        PortageTrips x = over("g5;52,t6,t3");
        due("the heavy one", x.cost(0), NONE);
        due("the light one", x.cost(1), NONE);
        x.bears(6);
        due("21 and 1 less 8", x.cost(0), 1014);
    }

    @Sentence(promise = 15, says = "or without it")
    static void costOfWhatIsNeeded() {
        PortageTrips x = over("g5;10,f4,t1,f4,t1");
        due("a plain one that FOOD needs", x.cost(1), NONE);
        due("a plain one that FOOD needs", x.cost(3), NONE);
        due("FOOD: 5 less 4", x.cost(0), 1001);
        due("FOOD: 5 less 4", x.cost(2), 1001);
    }

    @Sentence(promise = 15, says = "or it is the one THING there is")
    static void costOfTheOnlyOne() {
        due("a plain one", over("g9;52,t3").cost(0), NONE);
        due("FOOD", over("g9;52,f3").cost(0), NONE);
        due("one that is too heavy", over("g1;52,t3").cost(0), NONE);
    }

    @Sentence(promise = 15, says = "UNKNOWN")
    static void costOfNoThing() {
        due("without a PORTAGE", new PortageTrips().cost(0), UNKNOWN);
        PortageTrips x = over(TWO);
        for (int t : new int[] {-1, 2, 3, BIG, SMALL}) {
            due("THING " + t, x.cost(t), UNKNOWN);
        }
        due("no second one", over("g9;52,t3").cost(1), UNKNOWN);
    }

    // ---------------------------------------------------------------- promise 16: help

    @Sentence(promise = 16, says = "HELP of v more (0 .. 36)")
    static void helpOfNoneToMost() {
        PortageTrips x = over("g5;52,t3,t3");
        due("none more", x.help(0), 0);
        due("21 less 9", x.help(1), 12);
        due("36 more", x.help(36), 12);
        due("he BEARS as ever", x.many(2), 5);
        x.bears(36);
        due("36 more than 36", x.help(36), 0);
    }

    @Sentence(promise = 16, says = "NONE: there is no SOONEST now, or then")
    static void helpWhereNoneHelps() {
        PortageTrips x = over("g5;52,t6");
        due("none now, but then", x.help(1), NONE);
        due("none now, nor then", x.help(0), NONE);
        x = over("g1;52,t9,f9");
        due("none now, nor then", x.help(7), NONE);
        due("none now, but then", x.help(36), NONE);
    }

    @Sentence(promise = 16, says = "OUTSIDE")
    static void helpOfTooLittleTooMuch() {
        PortageTrips x = over(TWO);
        for (int v : new int[] {-1, 37, BIG, SMALL}) {
            due("help(" + v + ")", x.help(v), OUTSIDE);
        }
    }

    @Sentence(promise = 16, says = "STATE: there is no PORTAGE")
    static void helpWithoutPortage() {
        due("help(0)", new PortageTrips().help(0), STATE);
        due("help(36)", new PortageTrips().help(36), STATE);
    }

    // ---------------------------------------------------------------- terms of part 3

    @Sentence(promise = {12, 15, 16},
        says = "SOONEST: the least MINUTES by which he and all THINGS are at the last SPOT")
    static void soonestIsTheLeast() {
        // Of 1, 2 and 4 POUNDS 5 and 2 take a MINUTE less than 4 and 3.
        due("5 and 2 POUNDS", over("g5;10,t1,t2,t4").soonest(), 4);
        PortageTrips x = over(MUD_AHEAD);
        due("in the dry", x.soonest(), 14);
        x.rain(3);
        due("the first goes on ahead of the rain", x.soonest(), 18);
        x.rain(2);
        due("the first goes on ahead of the rain", x.soonest(), 18);
        x.rain(1);
        due("none is ahead of the rain", x.soonest(), 22);
    }

    @Sentence(promise = 13, says = "TRIPS of it: of several rows the one of the fewest TRIPS")
    static void soonestByTheFewestTrips() {
        // 6 and 6 POUNDS take 7 MINUTES; so do 5, 5 and 2, with lower sets, but by five TRIPS.
        PortageTrips x = over("g6;10,t1,t2,t4,t5");
        due("SOONEST", x.soonest(), 7);
        dueRow("three TRIPS", x, 1, 6, 0, 0, 1, 9);
        plan(x, 1, 5, 0, 0, 1, 2, 0, 0, 1, 8);
        due("five TRIPS take as long", minutes(x, 5), 7);
    }

    @Sentence(promise = 13, says = "then the first as a row (of SPOTS, then sets, TRIP by TRIP)")
    static void soonestByTheFirstRow() {
        dueRow("the lower set", over("g3;10,t3,t3"), 1, 1, 0, 0, 1, 2);
        dueRow("the lower sets", over("g3;10,t3,t3,t3"), 1, 1, 0, 0, 1, 2, 0, 0, 1, 4);
        PortageTrips x = over(MUD_AHEAD);
        dueRow("back to SPOT 0 ahead of SPOT 2", x, 1, 1, 0, 0, 1, 2, 2, 1, 1, 0, 2, 2);
        x.rain(3);
        dueRow("unless it takes longer", x, 1, 1, 2, 1, 1, 0, 0, 0, 1, 2, 2, 2);
        x.rain(1);
        dueRow("both take as long again", x, 1, 1, 0, 0, 1, 2, 2, 1, 1, 0, 2, 2);
    }

    @Sentence(promise = 13, says = "then the first as a row (of SPOTS, then sets, TRIP by TRIP)")
    static void setsOfATripAheadOfTheNextSpot() {
        // With set 4 on TRIP 4 the next SPOT could be 0 in place of 2: the lower set counts first.
        PortageTrips x = over("g9;53;54,f9,t8,t9,t9");
        x.bears(10);
        x.rain(16);
        due("SOONEST", x.soonest(), 141);
        dueRow("TRIP by TRIP", x, 1, 2, 2, 2, 1, 0, 0, 0, 1, 1, 2, 1, 1, 0, 0, 0, 1, 4, 0, 0, 1, 8, 2, 4,
            1, 0, 2, 8);
        plan(x, 1, 2, 2, 2, 1, 0, 0, 0, 1, 4, 0, 0, 1, 1, 0, 0, 1, 8, 2, 1, 1, 0, 2, 4, 1, 0, 2, 8);
        due("the other row takes as long", minutes(x, 14), 141);
    }

    @Sentence(promise = 14, says = "FEWEST: the fewest TRIPS for that")
    static void fewestOfAllRows() {
        PortageTrips x = over(FOUR);
        x.bears(9);
        due("three a STAGE", x.fewest(), 6);
        for (int rain : new int[] {0, 3, 99}) {
            x.rain(rain);
            due("RAIN does not matter", x.fewest(), 6);
        }
        x.boards(0, true);
        due("nor do BOARDS", x.fewest(), 6);
        x.bears(13);
        due("13 of 14 POUNDS", x.fewest(), 6);
        x.bears(14);
        due("all at once", x.fewest(), 2);
    }

    @Sentence(promise = 15, says = "COST of a THING: SOONEST less SOONEST without it (as if it were not there)")
    static void costAsIfItWereNotThere() {
        PortageTrips x = over(FOUR);
        x.bears(9);
        // Without FOOD: 7 and 5 POUNDS, 9 and 5 and 8, then 6 and 3 and 5 MINUTES.
        due("FOOD: 38 less 36", x.cost(1), 1002);
        x = over(TWO);
        x.rain(0);
        due("in the rain: 16 less 14", x.cost(0), 1002);
        x.rain(8);
        due("in the rain of one TRIP: 14 less 11", x.cost(0), 1003);
        x.boards(1, true);
        due("over BOARDS: 12 less 10", x.cost(0), 1002);
        due("SOONEST as ever", x.soonest(), 12);
        due("THINGS as ever", x.many(1), 2);
    }

    @Sentence(promise = 16, says = "HELP: how much less SOONEST is, if he BEARS so many more")
    static void helpStepByStep() {
        PortageTrips x = over("g3;10,t3,t3,t3");
        int[] helps = {0, 0, 0, 2, 2, 2, 4, 4};
        for (int v = 0; v < helps.length; v++) {
            due(v + " more", x.help(v), helps[v]);
        }
        due("SOONEST as ever", x.soonest(), 8);
        x = over("g5;52,t3,t3");
        x.rain(0);
        due("in the rain: 25 less 11", x.help(1), 14);
        x.boards(0, true);
        due("over BOARDS: 17 less 7", x.help(1), 10);
    }

    @Sentence(promise = {7, 12, 15, 16}, says = "BOARDS may lie over a STAGE")
    static void boardsMakeItSooner() {
        PortageTrips x = over(TWO);
        due("without", x.soonest(), 13);
        x.boards(0, true);
        due("over STAGE 0", x.soonest(), 11);
        x.boards(1, true);
        due("over both", x.soonest(), 10);
        x.rain(0);
        due("in the rain, too", x.soonest(), 10);
        x.boards(0, false);
        due("STAGE 0 without, in the rain", x.soonest(), 14);
    }

    public static void main(String[] args) throws IllegalAccessException {
        run(SoonestTest.class);
    }
}
