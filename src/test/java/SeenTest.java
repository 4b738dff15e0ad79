/** Part 4 of the document, what was seen: the promises 17 to 20, sentence by sentence. */
public final class SeenTest extends Trial {
    /** MINUTES 0 to 30, as a set. */
    private static final int ALL = BIG;

    private static int since(PortageTrips x, int n) {
        return x.since(1, INTS, 0, n);
    }

    private static int kinds(PortageTrips x, int t, int n) {
        return x.kinds(t, 1, INTS, 0, n);
    }

    // ---------------------------------------------------------------- promise 17: reading

    @Sentence(promise = 17, says = "A READING: its number")
    static void readingTellsItsNumber() {
        PortageTrips x = over(TWO);
        for (int k = 0; k < 8; k++) {
            due("READING " + k, x.reading(k % 2, k % 3, 14 * k), k);
            due("READINGS", x.many(3), k + 1);
        }
    }

    @Sentence(promise = 17, says = "UNKNOWN: THING, SPOT")
    static void readingOfNoThingAtNoSpot() {
        PortageTrips x = over(TWO);
        for (int t : new int[] {-1, 2, 4, BIG, SMALL}) {
            due("THING " + t, x.reading(t, 0, 0), UNKNOWN);
        }
        for (int spot : new int[] {-1, 3, 4, BIG, SMALL}) {
            due("SPOT " + spot, x.reading(0, spot, 0), UNKNOWN);
        }
        due("READINGS", x.many(3), 0);
        due("the last THING at the last SPOT", x.reading(1, 2, 0), 0);
        due("without a PORTAGE", new PortageTrips().reading(0, 0, 0), UNKNOWN);
    }

    @Sentence(promise = 17, says = "OUTSIDE: minute (0 .. 99)")
    static void readingInNoSuchMinute() {
        PortageTrips x = over(TWO);
        for (int minute : new int[] {-1, 100, BIG, SMALL}) {
            due("MINUTE " + minute, x.reading(0, 0, minute), OUTSIDE);
        }
        due("READINGS", x.many(3), 0);
        due("MINUTE 0", x.reading(0, 0, 0), 0);
        due("MINUTE 99", x.reading(0, 0, 99), 1);
    }

    @Sentence(promise = 17, says = "FULL")
    static void readingsAreFull() {
        PortageTrips x = over(TWO);
        for (int k = 0; k < 7; k++) {
            x.reading(0, 0, 0);
        }
        due("the eighth", x.reading(0, 0, 0), 7);
        due("the ninth", x.reading(0, 0, 0), FULL);
        due("READINGS", x.many(3), 8);
        x.back(1);
        due("the eighth again", x.reading(0, 0, 0), 7);
        due("the ninth again", x.reading(0, 0, 0), FULL);
    }

    // ---------------------------------------------------------------- promise 18: back

    @Sentence(promise = 18,
        says = "The last k READINGS (0 .. as many as there are) are taken back: how many are left")
    static void backTakesTheLast() {
        // With THING 0 at SPOT 1 from MINUTE 8 on, the first READING is so, the others are not.
        PortageTrips x = told(TWO, 1, 3);
        x.reading(0, 1, 8);
        x.reading(0, 0, 8);
        x.reading(0, 2, 8);
        due("none of three", x.back(0), 3);
        due("they are at odds", kinds(x, 0, 1), 0);
        due("one of three", x.back(1), 2);
        due("they are at odds", kinds(x, 0, 1), 0);
        due("one of two", x.back(1), 1);
        due("the first is so", kinds(x, 0, 1), 7);
        due("all", x.back(1), 0);
        for (int k = 0; k < 8; k++) {
            x.reading(0, 0, 99);
        }
        due("all eight at once", x.back(8), 0);
        due("READINGS", x.many(3), 0);
        due("none is left", kinds(x, 0, 1), 7);
        due("none of none", x.back(0), 0);
    }

    @Sentence(promise = 18, says = "OUTSIDE")
    static void backOfMoreThanThereAre() {
        PortageTrips x = over(TWO);
        due("one of none", x.back(1), OUTSIDE);
        x.reading(0, 0, 0);
        x.reading(0, 0, 0);
        for (int k : new int[] {-1, 3, 8, BIG, SMALL}) {
            due("back(" + k + ") of two", x.back(k), OUTSIDE);
        }
        due("READINGS", x.many(3), 2);
        due("one without a PORTAGE", new PortageTrips().back(1), OUTSIDE);
        due("none without a PORTAGE", new PortageTrips().back(0), 0);
    }

    // ---------------------------------------------------------------- promise 19: since

    @Sentence(promise = 19, says = "SINCE by TRIPS, as a set (of those that can't be: 0)")
    static void sinceOfTripsThatCanBeOrNot() {
        PortageTrips x = told(TWO, 1, 3, 2, 3, 2, 3);
        due("by no TRIP", since(x, 0), ALL);
        due("by two TRIPS", since(x, 2), ALL);
        due("by three, the last of which can't be", since(x, 3), 0);
        dueFault("since", x, 0);
        x.reading(0, 2, 13);
        due("both begin in the dry: from 9 on", since(x, 2), ALL & ~0x1ff);
        due("three that can't be", since(x, 3), 0);
    }

    @Sentence(promise = 19, says = "As trips(), without what")
    static void sinceRefusesAsTrips() {
        refusesAsTrips((x, sheet, lane, i, n) -> x.since(sheet, lane, i, n), false);
        PortageTrips x = new PortageTrips();
        plan(x, 1, 0);
        due("without a PORTAGE", since(x, 1), STATE);
        due("without a PORTAGE", since(x, 0), STATE);
        dueFault("STATE", x, 0);
    }

    // ---------------------------------------------------------------- promise 20: kinds

    @Sentence(promise = 20, says = "KINDS by TRIPS, as a set (that they can't be as it is now does not matter)")
    static void kindsThoughTripsCanNotBe() {
        PortageTrips x = told(TWO, 1, 1);
        due("FOOD stays alone: they can't be", firstWrong(x, 1), 0);
        due("a plain one could", kinds(x, 1, 1), 1);
        due("FOOD stays alone, whatever THING 0 is", kinds(x, 0, 1), 0);
        plan(x, 1, 2);
        due("THING 0 stays alone: just a plain one could", kinds(x, 0, 1), 1);
        due("by no TRIP", kinds(x, 0, 0), 7);
    }

    @Sentence(promise = 20, says = "UNKNOWN: THING")
    static void kindsOfNoThing() {
        PortageTrips x = told(TWO, 1, 3);
        for (int t : new int[] {-1, 2, 4, BIG, SMALL}) {
            due("THING " + t, kinds(x, t, 1), UNKNOWN);
            dueFault("no THING", x, 0);
        }
        due("the last THING", kinds(x, 1, 1), 7);
        x = new PortageTrips();
        plan(x, 1, 0);
        due("without a PORTAGE", kinds(x, 0, 1), UNKNOWN);
    }

    @Sentence(promise = 20, says = "else as since()")
    static void kindsRefusesAsSince() {
        refusesAsTrips((x, sheet, lane, i, n) -> x.kinds(1, sheet, lane, i, n), false);
        PortageTrips x = told(TWO, 2, 3);
        due("two SPOTS on: by no kind", kinds(x, 0, 1), 0);
    }

    // ---------------------------------------------------------------- terms of part 4: READINGS

    @Sentence(promise = {17, 19, 20}, says = "READINGS, 8 at most")
    static void allEightReadingsCount() {
        PortageTrips x = told(TWO, 1, 3);
        for (int k = 0; k < 7; k++) {
            x.reading(0, 1, 8 + k);
        }
        due("seven are so", kinds(x, 0, 1), 7);
        x.reading(0, 0, 99);
        due("the eighth is not, by kinds", kinds(x, 0, 1), 0);
        due("the eighth is not, by since", since(x, 1), 0);
        due("the ninth", x.reading(0, 0, 0), FULL);
    }

    @Sentence(promise = {17, 18}, says = "numbered by how many there are")
    static void readingsByNumbers() {
        PortageTrips x = over(TWO);
        due("the first", x.reading(0, 0, 0), 0);
        due("the second", x.reading(0, 0, 0), 1);
        x.back(2);
        due("the first again", x.reading(1, 1, 1), 0);
        due("the second again", x.reading(1, 1, 1), 1);
        x.back(1);
        due("the second again", x.reading(1, 1, 1), 1);
    }

    @Sentence(promise = {17, 19, 20},
        says = "as a MINUTE ended a THING lay at a SPOT (or was there with him: not on the way)")
    static void readingsOfWhatLayOrWasWithHim() {
        // Both go in 8 MINUTES; then he goes on in 4 with FOOD, with which he stays.
        PortageTrips x = told(TWO, 1, 3, 2, 2);
        int[][] rows = {{0, 1, 8, 7}, {0, 1, 99, 7}, {1, 2, 12, 7}, {1, 2, 99, 7},
            {0, 0, 0, 0}, {0, 1, 7, 0}, {1, 1, 8, 0}, {1, 2, 11, 0}, {1, 1, 12, 0}, {0, 2, 12, 0}};
        for (int[] row : rows) {
            x.reading(row[0], row[1], row[2]);
            due("THING " + row[0] + " at " + row[1] + " in " + row[2], kinds(x, 1, 2), row[3]);
            x.back(1);
        }
    }

    @Sentence(promise = {10, 19, 20}, says = "All by TRIPS that are told, behind them all stays")
    static void allStaysBehindTheTrips() {
        PortageTrips x = told(TWO, 1, 3);
        x.reading(0, 1, 99);
        due("at SPOT 1 in 99, by kinds", kinds(x, 0, 1), 7);
        due("at SPOT 1 in 99, by since", since(x, 1), ALL);
        due("at SPOT 1 in 999", x.at(0, 999, 1, INTS, 0, 1), 1);
        x.back(1);
        x.reading(0, 0, 99);
        due("without a TRIP all stays at SPOT 0, by kinds", kinds(x, 0, 0), 7);
        due("without a TRIP all stays at SPOT 0, by since", since(x, 0), ALL);
    }

    // ---------------------------------------------------------------- terms of part 4: SINCE

    /** He goes and comes twice, then takes the THING over, lets it lie for two TRIPS, takes it back. */
    private static PortageTrips layLater(int longs) {
        return told("g9;" + longs + "3,t1", 1, 0, 0, 0, 1, 0, 0, 0, 1, 1, 0, 0, 1, 0, 0, 1);
    }

    @Sentence(promise = 19, says = "SINCE: MINUTES 0 .. 30 from which on it may have RAINED")
    static void sinceTheFirstToTheLastMinute() {
        // The THING goes in 28, in 10 MINUTES or 13, and lies there for 14: in 54 by rain alone.
        PortageTrips x = layLater(7);
        x.reading(0, 1, 54);
        due("from 28 on at the latest", since(x, 8), (1 << 29) - 1);
        x.back(1);
        x.reading(0, 1, 38);
        due("from 29 on at the earliest", since(x, 8), 1 << 29 | 1 << 30);
        // It goes in 32, in 11 MINUTES or 14, and lies there for 16.
        x = layLater(8);
        x.reading(0, 1, 61);
        due("30 is ahead of 32: from all on", since(x, 8), ALL);
        x.back(1);
        x.reading(0, 1, 43);
        due("there is no 33 to tell", since(x, 8), 0);
        x = told("g9;53,t1", 1, 1);
        x.reading(0, 1, 8);
        due("not from 0 on", since(x, 1), ALL & ~1);
    }

    @Sentence(promise = 19, says = "(in place of as it is)")
    static void sinceInPlaceOfRainAsItIs() {
        PortageTrips x = told(TWO, 1, 3);
        x.reading(0, 1, 8);
        for (int rain : new int[] {NONE, 0, 1, 99}) {
            x.rain(rain);
            due("rain from " + rain + " on", since(x, 1), ALL & ~1);
            due("it RAINS as it did", x.rain(rain), rain);
        }
    }

    @Sentence(promise = 19, says = "so that they can be, and all READINGS are so, as a set")
    static void sinceByAllReadings() {
        // The first TRIP begins in 0, the second in 8 (or 10); it is over in 13, 14 (or 16).
        PortageTrips x = told(TWO, 1, 3, 2, 3);
        x.reading(0, 2, 14);
        due("over in 14: not from 0 on", since(x, 2), ALL & ~1);
        x.reading(1, 2, 13);
        due("over in 13: from 9 on", since(x, 2), ALL & ~0x1ff);
        x.reading(1, 0, 13);
        due("at odds", since(x, 2), 0);
        x.back(3);
        plan(x, 1, 1);
        due("no READINGS, but they can't be", since(x, 1), 0);
    }

    @Sentence(promise = 19, says = "so that they can be, and all READINGS are so, as a set")
    static void sinceByAllElseAsItIs() {
        PortageTrips x = told(TWO, 1, 3);
        x.bears(4);
        due("he BEARS too little", since(x, 1), 0);
        x.bears(5);
        due("he BEARS just enough", since(x, 1), ALL);
        x.boards(0, true);
        x.reading(0, 1, 6);
        due("over BOARDS it is there in 6, rain or not", since(x, 1), ALL);
        x.boards(0, false);
        due("without BOARDS it is not", since(x, 1), 0);
    }

    // ---------------------------------------------------------------- terms of part 4: KINDS

    @Sentence(promise = 20, says = "KINDS of a THING: those (0 .. 2), in place of its own")
    static void kindsInPlaceOfItsOwn() {
        // THING 0 stays with FOOD: a plain one may, FOOD may, a CHILD must not.
        for (String letter : new String[] {"t", "f", "c"}) {
            PortageTrips x = told("g9;10," + letter + "1,f1,t1", 1, 4);
            due("staying with FOOD, from " + letter, kinds(x, 0, 1), 3);
            plan(x, 1, 6);
            due("staying alone, from " + letter, kinds(x, 0, 1), 1);
            plan(x, 1, 2);
            due("staying with a plain one, from " + letter, kinds(x, 0, 1), 7);
            due("its kind as ever", x.ofThing(0, 0), "tfc".indexOf(letter));
        }
    }

    @Sentence(promise = 20, says = "by which the TRIPS can be, and all READINGS are so, as a set")
    static void kindsByTripsAndReadings() {
        PortageTrips x = told("g9;52,c1,f1,t1", 1, 4);
        due("THING 1, with a CHILD: no FOOD, but a CHILD or a plain one", kinds(x, 1, 1), 5);
        x.reading(2, 1, 7);
        due("there in 7", kinds(x, 1, 1), 5);
        x.reading(2, 1, 6);
        due("not yet in 6", kinds(x, 1, 1), 0);
        x.back(1);
        x.rain(0);
        due("in the rain not yet in 7", kinds(x, 1, 1), 0);
        x.boards(0, true);
        due("over BOARDS in 5, so in 7", kinds(x, 1, 1), 5);
        plan(x, 1, 7);
        x.bears(3);
        due("he BEARS just enough", kinds(x, 1, 1), 7);
        x.bears(2);
        due("he BEARS too little", kinds(x, 1, 1), 0);
    }

    public static void main(String[] args) throws IllegalAccessException {
        run(SeenTest.class);
    }
}
