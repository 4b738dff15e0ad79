import java.util.ArrayList;
import java.util.List;
import java.util.function.ToLongFunction;

/** The terms that all promises use: REFUSALS and FAULTS, their order, and that they change nothing. */
public final class RefusalsTest extends Trial {
    /** Of a call that names no FAULTS: fault() tells what it told. */
    private static final int KEPT = -1;

    /** A call with what it answers, and with what fault() tells then. */
    private record Asked(String call, ToLongFunction<PortageTrips> ask, long answer, int fault) {
    }

    /** A refusal of a call that names FAULTS. */
    private static Asked refused(String call, ToLongFunction<PortageTrips> ask, long answer) {
        return new Asked(call, ask, answer, 0);
    }

    /** A refusal of a call that names no FAULTS. */
    private static Asked declined(String call, ToLongFunction<PortageTrips> ask, long answer) {
        return new Asked(call, ask, answer, KEPT);
    }

    private static Asked faulted(String call, ToLongFunction<PortageTrips> ask, int answer) {
        return new Asked(call, ask, answer, -10 - answer);
    }

    /** A FAULT of a call that answers a long. */
    private static Asked lost(String call, ToLongFunction<PortageTrips> ask, int fault) {
        return new Asked(call, ask, LOST, fault);
    }

    // ---------------------------------------------------------------- objects and what they answer

    /** All that can be set is set: RAIN, BOARDS, READINGS, rows of each lane, TRACE; SHEET 3 has nothing. */
    private static PortageTrips rich() {
        PortageTrips x = told(FOUR, 1, 3, 0, 0, 1, 12);
        write(x, 2, SHORTS, 7, 1, 16);
        x.bears(9);
        x.rain(20);
        x.boards(1, true);
        x.reading(0, 1, 8);
        for (int k = 1; k < 8; k++) {
            x.reading(1, 1, 8 + k);
        }
        x.tell(2);
        return x;
    }

    /** Answers in which each part of an object's state shows, but for fault(). */
    private static List<Long> stateOf(PortageTrips x) {
        List<Long> all = new ArrayList<>();
        for (int what = 0; what < 4; what++) {
            all.add((long) x.many(what));
            all.add((long) x.ofThing(what, 0));
            all.add((long) x.ofThing(what, 1));
            all.add((long) x.trip(what, 0));
            all.add((long) x.trip(what, 1));
            all.add((long) x.kinds(what, 1, INTS, 0, 3));
        }
        for (int what = 0; what < 3; what++) {
            all.add((long) x.ofStage(0, what));
            all.add((long) x.ofStage(1, what));
            all.add((long) x.trips(1, INTS, 0, 3, what));
        }
        addCells(x, all);
        all.add((long) x.trace());
        all.add((long) x.soonest());
        all.add((long) x.fewest());
        all.add((long) x.since(1, INTS, 0, 3));
        all.add((long) x.rain(NONE));
        all.add((long) x.bears(36));
        return all;
    }

    private static void addCells(PortageTrips x, List<Long> all) {
        int[] sizes = {20, 6, 3, 0};
        for (int k = 0; k < 4; k++) {
            for (int lane = 0; lane < 3; lane++) {
                all.add(x.cell(k, 0, lane));
            }
            for (int i = 1; i <= sizes[k]; i++) {
                all.add(x.cell(k, i, k == 0 ? BYTES : k == 1 ? INTS : SHORTS));
            }
        }
        for (int k = 0; k < 4; k++) {
            all.add((long) x.put(k, sizes[k], 1));
        }
    }

    /** Looks at the answer of a call and at fault(), which told something else ahead of it. */
    private static void dueAsked(Asked one, PortageTrips x) {
        int former = one.fault == 4 ? x.put(3, 0, 0) : x.sheet(0, BYTES, -1);
        due(one.call, one.ask.applyAsLong(x), one.answer);
        dueFault(one.call, x, one.fault == KEPT ? -10 - former : one.fault);
    }

    private static void changesNothing(Asked one, boolean isRich) {
        PortageTrips asked = isRich ? rich() : new PortageTrips();
        PortageTrips notAsked = isRich ? rich() : new PortageTrips();
        dueAsked(one, asked);
        due(one.call + " changes nothing", stateOf(asked).equals(stateOf(notAsked)) ? 1 : 0, 1);
    }

    // ---------------------------------------------------------------- the calls that are refused

    private static List<Asked> refusedByPartsOneToThree() {
        return List.of(
            refused("portage of no SHEET", x -> x.portage(4, BYTES, 0, 8), UNKNOWN),
            refused("portage by no lane", x -> x.portage(0, 3, 0, 8), OUTSIDE),
            declined("ofStage of no STAGE", x -> x.ofStage(2, 0), UNKNOWN),
            declined("ofStage, what", x -> x.ofStage(0, 3), OUTSIDE),
            declined("ofThing of no THING", x -> x.ofThing(4, 0), UNKNOWN),
            declined("ofThing, what", x -> x.ofThing(0, 2), OUTSIDE),
            declined("bears 0", x -> x.bears(0), OUTSIDE),
            declined("bears 37", x -> x.bears(37), OUTSIDE),
            declined("rain -1", x -> x.rain(-1), OUTSIDE),
            declined("rain 100", x -> x.rain(100), OUTSIDE),
            declined("boards over no STAGE", x -> x.boards(2, true), UNKNOWN),
            declined("boards off no STAGE", x -> x.boards(-1, false), UNKNOWN),
            declined("well of no THING", x -> x.well(16), OUTSIDE),
            refused("trips of no SHEET", x -> x.trips(4, INTS, 0, 1, 0), UNKNOWN),
            refused("trips by no lane", x -> x.trips(1, 3, 0, 1, 0), OUTSIDE),
            refused("trips, n", x -> x.trips(1, INTS, 0, 19, 0), OUTSIDE),
            refused("trips, what", x -> x.trips(1, INTS, 0, 1, 3), OUTSIDE),
            refused("trips to no SPOT", x -> x.trips(2, SHORTS, 0, 1, 0), UNKNOWN),
            refused("trips with no THING", x -> x.trips(2, SHORTS, 1, 1, 0), OUTSIDE),
            refused("at of no THING", x -> x.at(4, 0, 1, INTS, 0, 1), UNKNOWN),
            refused("at no MINUTE", x -> x.at(0, 1000, 1, INTS, 0, 1), OUTSIDE),
            refused("at by TRIPS to no SPOT", x -> x.at(0, 0, 2, SHORTS, 0, 1), UNKNOWN),
            refused("dry of no SHEET", x -> x.dry(4, INTS, 0, 1, 0), LOST),
            refused("dry, which", x -> x.dry(1, INTS, 0, 1, 2), LOST),
            declined("trip -1", x -> x.trip(-1, 0), UNKNOWN),
            declined("trip, what", x -> x.trip(0, 2), OUTSIDE),
            declined("cost of no THING", x -> x.cost(4), UNKNOWN),
            declined("help -1", x -> x.help(-1), OUTSIDE),
            declined("help 37", x -> x.help(37), OUTSIDE));
    }

    private static List<Asked> refusedByPartsFourAndFive() {
        return List.of(
            declined("reading of no THING", x -> x.reading(4, 0, 0), UNKNOWN),
            declined("reading at no SPOT", x -> x.reading(0, 3, 0), UNKNOWN),
            declined("reading in no MINUTE", x -> x.reading(0, 0, 100), OUTSIDE),
            declined("a ninth reading", x -> x.reading(0, 0, 0), FULL),
            declined("back -1", x -> x.back(-1), OUTSIDE),
            declined("back 9 of 8", x -> x.back(9), OUTSIDE),
            refused("since of no SHEET", x -> x.since(-1, INTS, 0, 1), UNKNOWN),
            refused("since, n", x -> x.since(1, INTS, 0, -1), OUTSIDE),
            refused("since by TRIPS to no SPOT", x -> x.since(2, SHORTS, 0, 1), UNKNOWN),
            refused("kinds of no THING", x -> x.kinds(4, 1, INTS, 0, 1), UNKNOWN),
            refused("kinds by no lane", x -> x.kinds(0, 1, 3, 0, 1), OUTSIDE),
            refused("kinds by TRIPS to no SPOT", x -> x.kinds(0, 2, SHORTS, 0, 1), UNKNOWN),
            refused("sheet of no number", x -> x.sheet(4, INTS, 1), UNKNOWN),
            refused("sheet of no lane", x -> x.sheet(1, 3, 1), OUTSIDE),
            refused("sheet of 61", x -> x.sheet(1, BYTES, 61), OUTSIDE),
            declined("lose no SHEET", x -> x.lose(4), UNKNOWN),
            refused("put into no SHEET", x -> x.put(4, 0, 5), UNKNOWN),
            refused("cell of no SHEET", x -> x.cell(4, 0, INTS), LOST),
            refused("cell of no lane", x -> x.cell(1, 0, 3), LOST),
            refused("copy from no SHEET", x -> x.copy(4, 0, 1, 0, 1), UNKNOWN),
            refused("copy to no SHEET", x -> x.copy(1, 0, 4, 0, 1), UNKNOWN),
            declined("tell no THING", x -> x.tell(4), UNKNOWN),
            declined("hail no THING", x -> x.hail(-1), UNKNOWN),
            refused("as of no THING", x -> x.as(4, 0), UNKNOWN),
            refused("as of no kind", x -> x.as(0, 3), OUTSIDE),
            declined("many, what", x -> x.many(4), OUTSIDE));
    }

    private static List<Asked> refusedWithoutPortage() {
        return List.of(
            declined("ofStage", x -> x.ofStage(0, 0), UNKNOWN),
            declined("ofThing", x -> x.ofThing(0, 0), UNKNOWN),
            declined("bears", x -> x.bears(5), STATE),
            declined("rain", x -> x.rain(5), STATE),
            declined("boards", x -> x.boards(0, true), UNKNOWN),
            declined("well", x -> x.well(0), STATE),
            declined("soonest", x -> x.soonest(), STATE),
            declined("trip", x -> x.trip(0, 0), STATE),
            declined("fewest", x -> x.fewest(), STATE),
            declined("cost", x -> x.cost(0), UNKNOWN),
            declined("help", x -> x.help(0), STATE),
            declined("reading", x -> x.reading(0, 0, 0), UNKNOWN),
            declined("back", x -> x.back(1), OUTSIDE),
            declined("tell", x -> x.tell(0), UNKNOWN),
            declined("hail", x -> x.hail(0), UNKNOWN),
            refused("as", x -> x.as(0, 0), UNKNOWN));
    }

    private static List<Asked> callsWithFaults() {
        return List.of(
            faulted("portage, CAST", x -> x.portage(0, INTS, 0, 8), CAST),
            faulted("portage, NULL", x -> x.portage(3, BYTES, 0, 8), NULL),
            faulted("portage, SIZE", x -> x.portage(0, BYTES, 0, -1), SIZE),
            faulted("portage, INDEX", x -> x.portage(0, BYTES, 0, 21), INDEX),
            faulted("trips, CAST", x -> x.trips(1, BYTES, 0, 1, 0), CAST),
            faulted("trips, NULL", x -> x.trips(3, INTS, 0, 1, 0), NULL),
            faulted("trips, INDEX", x -> x.trips(1, INTS, 0, 4, 0), INDEX),
            faulted("at, CAST", x -> x.at(0, 0, 1, BYTES, 0, 1), CAST),
            faulted("at, NULL", x -> x.at(0, 0, 3, INTS, 0, 1), NULL),
            faulted("at, INDEX", x -> x.at(0, 0, 1, INTS, 0, 4), INDEX),
            lost("dry, CAST", x -> x.dry(1, BYTES, 0, 1, 0), 2),
            lost("dry, NULL", x -> x.dry(3, INTS, 0, 1, 0), 1),
            lost("dry, INDEX", x -> x.dry(1, INTS, 0, 4, 0), 3),
            faulted("since, CAST", x -> x.since(1, BYTES, 0, 1), CAST),
            faulted("since, NULL", x -> x.since(3, INTS, 0, 1), NULL),
            faulted("since, INDEX", x -> x.since(1, INTS, 0, 4), INDEX),
            faulted("kinds, CAST", x -> x.kinds(0, 1, BYTES, 0, 1), CAST),
            faulted("kinds, NULL", x -> x.kinds(0, 3, INTS, 0, 1), NULL),
            faulted("kinds, INDEX", x -> x.kinds(0, 1, INTS, 0, 4), INDEX),
            faulted("sheet, SIZE", x -> x.sheet(1, BYTES, -1), SIZE),
            faulted("put, NULL", x -> x.put(3, 0, 5), NULL),
            faulted("put, INDEX", x -> x.put(1, 6, 5), INDEX),
            lost("cell, CAST", x -> x.cell(1, 0, BYTES), 2),
            lost("cell, NULL", x -> x.cell(3, 0, BYTES), 1),
            lost("cell, INDEX", x -> x.cell(1, 6, INTS), 3),
            faulted("copy, NULL", x -> x.copy(1, 0, 3, 0, 1), NULL),
            faulted("copy, CAST", x -> x.copy(1, 0, 2, 0, 1), CAST),
            faulted("copy, INDEX", x -> x.copy(1, 3, 1, 0, 4), INDEX),
            faulted("copy, INDEX of the other", x -> x.copy(1, 0, 1, 3, 4), INDEX),
            faulted("as, CAST", x -> x.as(0, 1), CAST));
    }

    // ---------------------------------------------------------------- REFUSALS: what they are

    @Sentence(promise = {}, says = "UNKNOWN (there is no such STAGE, THING, SPOT, SHEET, place of a row)")
    static void unknownIsWhatIsNotThere() {
        PortageTrips x = rich();
        due("UNKNOWN", PortageTrips.UNKNOWN, -1);
        due("no STAGE", x.ofStage(2, 0), -1);
        due("no THING", x.ofThing(4, 0), -1);
        due("no SPOT", x.reading(0, 3, 0), -1);
        due("no SHEET", x.lose(4), -1);
        due("no place of a row of TRIPS", x.trip(-1, 0), -1);
    }

    @Sentence(promise = {}, says = "OUTSIDE (another number is not as told)")
    static void outsideIsAnotherNumber() {
        PortageTrips x = rich();
        due("OUTSIDE", PortageTrips.OUTSIDE, -2);
        due("a what", x.ofStage(0, 3), -2);
        due("what he BEARS", x.bears(37), -2);
        due("a MINUTE", x.rain(100), -2);
        due("a lane", x.sheet(0, 3, 0), -2);
        due("a set", x.well(16), -2);
        due("a kind", x.as(0, 3), -2);
    }

    @Sentence(promise = {5, 6, 8, 9, 11, 12, 13, 14, 16, 19}, says = "STATE (as told)")
    static void stateIsNoPortage() {
        PortageTrips x = new PortageTrips();
        x.sheet(0, BYTES, 2);
        due("STATE", PortageTrips.STATE, -3);
        due("bears", x.bears(5), -3);
        due("rain", x.rain(5), -3);
        due("well", x.well(0), -3);
        due("trips", x.trips(0, BYTES, 0, 1, 0), -3);
        due("dry", x.dry(0, BYTES, 0, 1, 0), LOST);
        due("soonest", x.soonest(), -3);
        due("trip", x.trip(0, 0), -3);
        due("fewest", x.fewest(), -3);
        due("help", x.help(0), -3);
        due("since", x.since(0, BYTES, 0, 1), -3);
    }

    @Sentence(promise = {}, says = "FULL")
    static void fullIsTooMany() {
        due("FULL", PortageTrips.FULL, -4);
        due("a ninth READING", rich().reading(0, 0, 0), -4);
    }

    @Sentence(promise = {6, 9, 10, 12, 13, 14, 15, 16}, says = "NONE is -9")
    static void noneIsMinusNine() {
        due("NONE", PortageTrips.NONE, -9);
        PortageTrips x = told("g1;52,t9", 1, 0);
        due("rain", x.rain(-9), -9);
        due("no FIRST WRONG", firstWrong(x, 1), -9);
        due("no SOONEST", x.soonest(), -9);
    }

    @Sentence(promise = {8, 9, 13, 19, 20}, says = "Sets are told as bits (bit k for number k)")
    static void setsAreBits() {
        PortageTrips x = over("g9;10,f1,t1,c1,t1");
        due("all but the CHILD", x.well(15), 1 | 2 | 8);
        plan(x, 1, 1 | 8);
        due("THINGS 0 and 3 are carried", trips(x, 1, 11), 1 | 8);
        due("THINGS 1 and 2 are left", trips(x, 1, 10), 2 | 4);
        due("THING 2 may be of each kind", x.kinds(2, 1, INTS, 0, 1), 1 | 2 | 4);
        x.bears(3);
        due("SOONEST: THINGS 0 and 1 go first", x.trip(0, 1), 1 | 2);
        due("SOONEST: THINGS 2 and 3 go last", x.trip(2, 1), 4 | 8);
        x = told(TWO, 1, 3, 2, 3);
        x.reading(0, 2, 13);
        due("MINUTES from 9 to 30", x.since(1, INTS, 0, 2), BIG - 0x1ff);
    }

    // ---------------------------------------------------------------- REFUSALS change nothing

    @Sentence(promise = {}, says = "they change nothing (but fault(), of a call that names FAULTS)")
    static void refusalsChangeNothing() {
        for (Asked one : refusedByPartsOneToThree()) {
            changesNothing(one, true);
        }
        for (Asked one : refusedByPartsFourAndFive()) {
            changesNothing(one, true);
        }
        for (Asked one : refusedWithoutPortage()) {
            changesNothing(one, false);
        }
    }

    @Sentence(promise = {},
        says = "it answers -10 less it (LOST, where a long is answered, as for refusals) and changes nothing")
    static void faultsChangeNothing() {
        for (Asked one : callsWithFaults()) {
            changesNothing(one, true);
        }
        due("LOST", PortageTrips.LOST, Long.MIN_VALUE);
    }

    // ---------------------------------------------------------------- FAULTS: what they are

    @Sentence(promise = {2, 9, 10, 11, 19, 20, 23, 24, 25},
        says = "FAULTS are the machine's: 1 NULL (there is nothing)")
    static void nullIsOne() {
        PortageTrips x = rich();
        due("put", x.put(3, 0, 0), -11);
        dueFault("put", x, 1);
        due("cell", x.cell(3, 0, INTS), LOST);
        dueFault("cell", x, 1);
        x.sheet(3, INTS, 0);
        due("a row of none is not nothing", x.put(3, 0, 0), -13);
    }

    @Sentence(promise = {2, 9, 10, 11, 19, 20, 24, 25, 28}, says = "2 CAST (it is of another lane, kind)")
    static void castIsTwo() {
        PortageTrips x = rich();
        due("another lane", x.portage(1, BYTES, 0, 1), -12);
        dueFault("another lane", x, 2);
        due("another kind", x.as(0, 2), -12);
        dueFault("another kind", x, 2);
    }

    @Sentence(promise = {2, 9, 10, 11, 19, 20, 25},
        says = "3 INDEX (of cells from i on also where i is not 0 .. how many there are, "
            + "if none of them is taken, too)")
    static void indexThoughNoneIsTaken() {
        for (int i : new int[] {-1, 7, 8, 60, BIG, SMALL}) {
            PortageTrips x = rich();
            due("portage from " + i + " on", x.portage(1, INTS, i, 0), -13);
            due("trips from " + i + " on", x.trips(1, INTS, i, 0, 0), -13);
            due("at from " + i + " on", x.at(0, 0, 1, INTS, i, 0), -13);
            due("dry from " + i + " on", x.dry(1, INTS, i, 0, 0), LOST);
            dueFault("dry from " + i + " on", x, 3);
            due("since from " + i + " on", x.since(1, INTS, i, 0), -13);
            due("kinds from " + i + " on", x.kinds(0, 1, INTS, i, 0), -13);
            due("copy from " + i + " on", x.copy(1, i, 1, 0, 0), -13);
            due("copy to " + i + " on", x.copy(1, 0, 1, i, 0), -13);
            dueFault("copy", x, 3);
        }
        for (int i : new int[] {0, 6}) {
            PortageTrips x = rich();
            due("portage from " + i + " on", x.portage(1, INTS, i, 0), -100);
            due("trips from " + i + " on", x.trips(1, INTS, i, 0, 0), 0);
            due("at from " + i + " on", x.at(0, 0, 1, INTS, i, 0), 0);
            due("dry from " + i + " on", x.dry(1, INTS, i, 0, 0), 1);
            due("since from " + i + " on", x.since(1, INTS, i, 0), 0);
            due("kinds from " + i + " on", x.kinds(0, 1, INTS, i, 0), 0);
            due("copy from and to " + i + " on", x.copy(1, i, 1, i, 0), 0);
            dueFault("copy", x, 0);
        }
    }

    @Sentence(promise = {2, 21}, says = "4 SIZE (a length below 0)")
    static void sizeIsFour() {
        PortageTrips x = rich();
        due("portage", x.portage(0, BYTES, 0, -1), -14);
        dueFault("portage", x, 4);
        due("sheet", x.sheet(0, BYTES, -1), -14);
        dueFault("sheet", x, 4);
        due("no length of trips", x.trips(1, INTS, 0, -1, 0), OUTSIDE);
        due("no length of copy", x.copy(1, 0, 1, 0, -1), INDEX);
    }

    @Sentence(promise = {30}, says = "fault() tells it")
    static void faultTellsEach() {
        PortageTrips x = rich();
        x.put(3, 0, 0);
        due("NULL", x.fault(), 1);
        x.as(0, 1);
        due("CAST", x.fault(), 2);
        x.put(1, 6, 0);
        due("INDEX", x.fault(), 3);
        x.sheet(1, INTS, -1);
        due("SIZE", x.fault(), 4);
        x.cell(0, 0, BYTES);
        due("none", x.fault(), 0);
    }

    // ---------------------------------------------------------------- the order, part 1

    @Sentence(promise = 2, says = "REFUSALS, in the order in which a call's line tells them")
    static void orderOfPortage() {
        PortageTrips x = new PortageTrips();
        due("SHEET ahead of lane", x.portage(4, 3, 0, 0), UNKNOWN);
        due("lane ahead of NULL", x.portage(3, 3, 0, 0), OUTSIDE);
        dueFault("lane", x, 0);
    }

    @Sentence(promise = 2, says = "Of a call the first that is come to, in the order told")
    static void orderOfPortageFaults() {
        PortageTrips x = rich();
        due("CAST ahead of SIZE", x.portage(0, INTS, -1, -1), CAST);
        due("CAST ahead of INDEX", x.portage(0, INTS, -1, 0), CAST);
        due("NULL ahead of SIZE", x.portage(3, INTS, -1, -1), NULL);
        due("NULL ahead of INDEX", x.portage(3, INTS, -1, 0), NULL);
        due("SIZE ahead of INDEX", x.portage(0, BYTES, -1, -1), SIZE);
        dueFault("SIZE", x, 4);
    }

    @Sentence(promise = {3, 4, 28}, says = "REFUSALS, in the order in which a call's line tells them")
    static void orderOfParts() {
        PortageTrips x = rich();
        due("ofStage: STAGE ahead of what", x.ofStage(2, 3), UNKNOWN);
        due("ofThing: THING ahead of what", x.ofThing(4, 2), UNKNOWN);
        due("as: THING ahead of kind", x.as(4, 3), UNKNOWN);
    }

    @Sentence(promise = {5, 6, 8, 16}, says = "REFUSALS, in the order in which a call's line tells them")
    static void orderOfNumbersWithoutPortage() {
        PortageTrips x = new PortageTrips();
        due("bears: OUTSIDE ahead of STATE", x.bears(0), OUTSIDE);
        due("bears: OUTSIDE ahead of STATE", x.bears(37), OUTSIDE);
        due("rain: OUTSIDE ahead of STATE", x.rain(-1), OUTSIDE);
        due("rain: OUTSIDE ahead of STATE", x.rain(100), OUTSIDE);
        due("well: OUTSIDE ahead of STATE", x.well(1), OUTSIDE);
        due("well: OUTSIDE ahead of STATE", x.well(SMALL), OUTSIDE);
        due("help: OUTSIDE ahead of STATE", x.help(-1), OUTSIDE);
        due("help: OUTSIDE ahead of STATE", x.help(37), OUTSIDE);
    }

    // ---------------------------------------------------------------- the order, parts 2 to 4

    @Sentence(promise = 9, says = "REFUSALS, in the order in which a call's line tells them")
    static void orderOfTrips() {
        PortageTrips x = new PortageTrips();
        due("SHEET ahead of lane, n, what", x.trips(4, 3, 0, 19, 3), UNKNOWN);
        due("lane ahead of NULL", x.trips(3, 3, 0, 0, 0), OUTSIDE);
        due("n ahead of NULL", x.trips(3, INTS, 0, 19, 0), OUTSIDE);
        due("n ahead of NULL", x.trips(3, INTS, 0, -1, 0), OUTSIDE);
        due("what ahead of NULL", x.trips(3, INTS, 0, 0, 3), OUTSIDE);
        due("NULL ahead of STATE", x.trips(3, INTS, 0, 0, 0), NULL);
        plan(x, 3, 16);
        due("n ahead of CAST", x.trips(1, BYTES, 0, 19, 0), OUTSIDE);
        due("what ahead of CAST", x.trips(1, BYTES, 0, 0, 14), OUTSIDE);
        due("n ahead of INDEX", x.trips(1, INTS, 9, 19, 0), OUTSIDE);
        due("what ahead of INDEX", x.trips(1, INTS, 9, 0, -1), OUTSIDE);
        due("CAST ahead of STATE", x.trips(1, BYTES, 0, 0, 0), CAST);
        due("INDEX ahead of STATE", x.trips(1, INTS, 3, 0, 0), INDEX);
        due("STATE ahead of the pairs", x.trips(1, INTS, 0, 1, 0), STATE);
    }

    @Sentence(promise = 9, says = "Of a call the first that is come to, in the order told")
    static void orderOfTripsFaults() {
        PortageTrips x = rich();
        due("CAST ahead of INDEX", x.trips(1, BYTES, -1, 1, 0), CAST);
        due("NULL ahead of INDEX", x.trips(3, BYTES, -1, 1, 0), NULL);
        plan(x, 3, 16);
        due("INDEX ahead of the pairs", x.trips(1, INTS, 0, 2, 0), INDEX);
        due("CAST ahead of the pairs", x.trips(1, BYTES, 0, 1, 0), CAST);
    }

    @Sentence(promise = 10, says = "REFUSALS, in the order in which a call's line tells them")
    static void orderOfAt() {
        PortageTrips x = rich();
        due("THING ahead of the MINUTE", x.at(4, 1000, 1, INTS, 0, 0), UNKNOWN);
        due("the MINUTE ahead of the SHEET", x.at(0, 1000, 4, INTS, 0, 0), OUTSIDE);
        due("the SHEET ahead of the lane", x.at(0, 0, 4, 3, 0, 0), UNKNOWN);
        due("the lane ahead of NULL", x.at(0, 0, 3, 3, 0, 0), OUTSIDE);
        due("n ahead of CAST", x.at(0, 0, 1, BYTES, 0, 19), OUTSIDE);
        due("n ahead of INDEX", x.at(0, 0, 1, INTS, 9, 19), OUTSIDE);
        plan(x, 3, 16);
        due("INDEX ahead of the pairs", x.at(0, 0, 1, INTS, 0, 2), INDEX);
        due("a SPOT ahead of its set", x.at(0, 0, 1, INTS, 0, 1), UNKNOWN);
        x = new PortageTrips();
        due("THING ahead of all", x.at(0, -1, -1, -1, -1, -1), UNKNOWN);
        x.put(3, 0, 0);
        due("THING ahead of NULL", x.at(0, 0, 0, 0, 0, 0), UNKNOWN);
        dueFault("THING", x, 0);
    }

    @Sentence(promise = 11, says = "Of a call the first that is come to, in the order told")
    static void orderOfDry() {
        List<Asked> calls = List.of(
            lost("SHEET ahead of FAULTS", x -> x.dry(4, BYTES, -1, 1, 0), 0),
            lost("lane ahead of NULL", x -> x.dry(3, 3, -1, 1, 0), 0),
            lost("n ahead of NULL", x -> x.dry(3, INTS, -1, 19, 0), 0),
            lost("n ahead of CAST", x -> x.dry(1, BYTES, -1, 19, 0), 0),
            lost("which ahead of CAST", x -> x.dry(1, BYTES, -1, 1, 2), 0),
            lost("which ahead of INDEX", x -> x.dry(1, INTS, -1, 1, 2), 0),
            lost("CAST ahead of INDEX", x -> x.dry(1, BYTES, -1, 1, 0), 2),
            lost("NULL ahead of INDEX", x -> x.dry(3, BYTES, -1, 1, 0), 1),
            lost("INDEX ahead of the pairs", x -> x.dry(2, SHORTS, 0, 2, 0), 3),
            lost("the pairs", x -> x.dry(2, SHORTS, 0, 1, 0), 0));
        PortageTrips full = rich();
        for (Asked one : calls) {
            dueAsked(one, full);
        }
        dueAsked(lost("NULL ahead of STATE", x -> x.dry(3, BYTES, 0, 0, 0), 1), new PortageTrips());
    }

    @Sentence(promise = 13, says = "REFUSALS, in the order in which a call's line tells them")
    static void orderOfTrip() {
        PortageTrips x = new PortageTrips();
        due("k ahead of what", x.trip(-1, 2), UNKNOWN);
        due("k ahead of STATE", x.trip(-1, 0), UNKNOWN);
        due("what ahead of STATE", x.trip(0, 2), OUTSIDE);
        due("what ahead of STATE", x.trip(0, -1), OUTSIDE);
    }

    @Sentence(promise = 17, says = "REFUSALS, in the order in which a call's line tells them")
    static void orderOfReading() {
        PortageTrips x = rich();
        due("THING ahead of the MINUTE", x.reading(4, 0, 100), UNKNOWN);
        due("SPOT ahead of the MINUTE", x.reading(0, 3, 100), UNKNOWN);
        due("THING ahead of FULL", x.reading(4, 0, 0), UNKNOWN);
        due("SPOT ahead of FULL", x.reading(0, 3, 0), UNKNOWN);
        due("the MINUTE ahead of FULL", x.reading(0, 0, 100), OUTSIDE);
        due("FULL", x.reading(0, 0, 0), FULL);
    }

    @Sentence(promise = {19, 20}, says = "REFUSALS, in the order in which a call's line tells them")
    static void orderOfSinceAndKinds() {
        PortageTrips x = new PortageTrips();
        due("since: SHEET ahead of lane, n", x.since(4, 3, 0, 19), UNKNOWN);
        due("since: lane ahead of NULL", x.since(3, 3, 0, 0), OUTSIDE);
        due("since: n ahead of NULL", x.since(3, INTS, 0, 19), OUTSIDE);
        due("since: NULL ahead of STATE", x.since(3, INTS, 0, 0), NULL);
        plan(x, 3, 16);
        due("since: CAST ahead of INDEX", x.since(1, BYTES, -1, 0), CAST);
        due("since: INDEX ahead of STATE", x.since(1, INTS, -1, 0), INDEX);
        due("since: STATE ahead of the pairs", x.since(1, INTS, 0, 1), STATE);
        due("kinds: THING ahead of SHEET, lane, n", x.kinds(0, 3, INTS, 0, 0), UNKNOWN);
        dueFault("THING", x, 0);
        x = rich();
        due("kinds: THING ahead of lane", x.kinds(4, 1, 3, 0, 0), UNKNOWN);
        due("kinds: SHEET ahead of lane", x.kinds(0, 4, 3, 0, 0), UNKNOWN);
        due("kinds: n ahead of CAST", x.kinds(0, 1, BYTES, 0, 19), OUTSIDE);
        due("kinds: CAST ahead of INDEX", x.kinds(0, 1, BYTES, -1, 0), CAST);
        due("kinds: INDEX ahead of the pairs", x.kinds(0, 2, SHORTS, 0, 2), INDEX);
    }

    // ---------------------------------------------------------------- the order, part 5

    @Sentence(promise = 21, says = "REFUSALS, in the order in which a call's line tells them")
    static void orderOfSheet() {
        PortageTrips x = rich();
        due("SHEET ahead of lane", x.sheet(4, 3, 0), UNKNOWN);
        due("SHEET ahead of n", x.sheet(4, BYTES, 61), UNKNOWN);
        due("SHEET ahead of SIZE", x.sheet(4, BYTES, -1), UNKNOWN);
        due("lane ahead of SIZE", x.sheet(0, 3, -1), OUTSIDE);
        dueFault("lane ahead of SIZE", x, 0);
    }

    @Sentence(promise = {23, 24}, says = "Of a call the first that is come to, in the order told")
    static void orderOfPutAndCell() {
        List<Asked> calls = List.of(
            refused("put: SHEET ahead of INDEX", x -> x.put(4, -1, 0), UNKNOWN),
            faulted("put: NULL ahead of INDEX", x -> x.put(3, -1, 0), NULL),
            lost("cell: SHEET ahead of all", x -> x.cell(4, -1, 3), 0),
            lost("cell: lane ahead of CAST, INDEX", x -> x.cell(1, -1, 3), 0),
            lost("cell: lane ahead of NULL", x -> x.cell(3, -1, 3), 0),
            lost("cell: CAST ahead of INDEX", x -> x.cell(1, -1, BYTES), 2),
            lost("cell: NULL ahead of INDEX", x -> x.cell(3, -1, BYTES), 1));
        PortageTrips full = rich();
        for (Asked one : calls) {
            dueAsked(one, full);
        }
    }

    @Sentence(promise = 25, says = "Of a call the first that is come to, in the order told")
    static void orderOfCopy() {
        PortageTrips x = rich();
        due("SHEET ahead of NULL", x.copy(3, 0, 4, 0, 0), UNKNOWN);
        due("SHEET ahead of INDEX", x.copy(4, -1, 0, 0, 0), UNKNOWN);
        due("NULL ahead of INDEX", x.copy(3, -1, 0, -1, -1), NULL);
        due("NULL of the other ahead of INDEX", x.copy(0, -1, 3, -1, -1), NULL);
        due("CAST ahead of INDEX of the first", x.copy(0, -1, 1, 0, 0), CAST);
        due("CAST ahead of INDEX of the other", x.copy(0, 0, 1, -1, 0), CAST);
        due("CAST ahead of INDEX of n", x.copy(0, 0, 1, 0, -1), CAST);
        dueFault("CAST ahead of INDEX", x, 2);
    }

    // ---------------------------------------------------------------- how long an object is used

    @Sentence(promise = {}, says = "An object is used for at most 512 calls after it has been made")
    static void usedFor512Calls() {
        PortageTrips x = over(FOUR);
        int calls = 2 + FOUR.length();
        int trace = 0;
        for (int k = 0; calls + 5 <= 508; k++) {
            x.tell(2);
            x.reading(0, k % 3, k % 100);
            x.bears(k % 36 + 1);
            x.soonest();
            x.help(k % 37);
            calls += 5;
            trace = (((trace * 31 + 3) * 31 + 2) * 31 + 1) * 31 + 1;
        }
        for (; calls < 508; calls++) {
            x.cost(calls % 4);
        }
        due("call 509", x.trace(), trace);
        due("call 510", x.many(3), 8);
        x.bears(14);
        due("call 512", x.soonest(), 19);
    }

    public static void main(String[] args) throws IllegalAccessException {
        run(RefusalsTest.class);
    }
}
