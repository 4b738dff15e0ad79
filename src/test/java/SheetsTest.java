/** Part 5 of the document, sheets and parts: the promises 21 to 31, sentence by sentence. */
public final class SheetsTest extends Trial {
    private static final int[] NO_SUCH_SHEETS = {-1, 4, BIG, SMALL};
    private static final int[] NO_SUCH_LANES = {-1, 3, BIG, SMALL};

    private static void dueCells(String what, PortageTrips x, int sheet, int lane, int... cells) {
        for (int i = 0; i < cells.length; i++) {
            due(what + ": cell " + i, x.cell(sheet, i, lane), cells[i]);
        }
        due(what + ": no further cell", x.cell(sheet, cells.length, lane), LOST);
        dueFault(what + ": no further cell", x, 3);
    }

    // ---------------------------------------------------------------- promise 21: sheet

    @Sentence(promise = 21, says = "A SHEET gets a new row: 1")
    static void sheetGetsANewRow() {
        PortageTrips x = new PortageTrips();
        for (int k = 0; k < 4; k++) {
            due("a row of three", x.sheet(k, k % 3, 3), 1);
            x.put(k, 2, 7);
            due("a longer one in its place", x.sheet(k, INTS, 4), 1);
            dueCells("the new row", x, k, INTS, 0, 0, 0, 0);
            due("a row of none", x.sheet(k, BYTES, 0), 1);
            dueCells("a row of none", x, k, BYTES);
        }
    }

    @Sentence(promise = 21, says = "UNKNOWN")
    static void sheetOfNoNumber() {
        PortageTrips x = new PortageTrips();
        for (int k : NO_SUCH_SHEETS) {
            due("SHEET " + k, x.sheet(k, BYTES, 1), UNKNOWN);
            dueFault("no SHEET", x, 0);
        }
    }

    @Sentence(promise = 21, says = "OUTSIDE: lane")
    static void sheetOfNoLane() {
        PortageTrips x = new PortageTrips();
        for (int lane : NO_SUCH_LANES) {
            due("lane " + lane, x.sheet(0, lane, 1), OUTSIDE);
            dueFault("no lane", x, 0);
        }
        due("it has nothing", x.lose(0), 0);
    }

    @Sentence(promise = 21, says = "n above 60")
    static void sheetOfTooMany() {
        PortageTrips x = new PortageTrips();
        for (int lane = 0; lane < 3; lane++) {
            due("60", x.sheet(0, lane, 60), 1);
            due("the last of 60", x.put(0, 59, 5), 1);
            due("61", x.sheet(0, lane, 61), OUTSIDE);
            due("the most", x.sheet(0, lane, BIG), OUTSIDE);
            dueFault("61", x, 0);
            due("the row is as it was", x.cell(0, 59, lane), 5);
        }
    }

    @Sentence(promise = 21, says = "SIZE")
    static void sheetOfLessThanNone() {
        PortageTrips x = new PortageTrips();
        write(x, 0, INTS, 7);
        for (int n : new int[] {-1, -61, SMALL}) {
            due("n " + n, x.sheet(0, BYTES, n), SIZE);
            dueFault("n " + n, x, 4);
        }
        dueCells("the row is as it was", x, 0, INTS, 7);
        due("none is no SIZE", x.sheet(0, BYTES, 0), 1);
        dueFault("none", x, 0);
    }

    // ---------------------------------------------------------------- promise 22: lose

    @Sentence(promise = 22, says = "A SHEET has nothing: 1")
    static void loseARow() {
        PortageTrips x = new PortageTrips();
        for (int k = 0; k < 4; k++) {
            x.sheet(k, INTS, 2);
            due("a row of two", x.lose(k), 1);
            due("it has nothing", x.put(k, 0, 0), NULL);
            x.sheet(k, BYTES, 0);
            due("a row of none is a row", x.lose(k), 1);
        }
    }

    @Sentence(promise = 22, says = "0: it had nothing")
    static void loseNothing() {
        PortageTrips x = new PortageTrips();
        due("at first", x.lose(3), 0);
        x.sheet(3, INTS, 2);
        x.lose(3);
        due("lost twice", x.lose(3), 0);
    }

    @Sentence(promise = 22, says = "UNKNOWN")
    static void loseNoSheet() {
        PortageTrips x = new PortageTrips();
        for (int k : NO_SUCH_SHEETS) {
            due("SHEET " + k, x.lose(k), UNKNOWN);
        }
    }

    // ---------------------------------------------------------------- promise 23: put

    @Sentence(promise = 23, says = "Cell i of a SHEET becomes v: 1")
    static void putIntoCells() {
        PortageTrips x = new PortageTrips();
        x.sheet(0, INTS, 60);
        due("the first", x.put(0, 0, BIG), 1);
        due("the last", x.put(0, 59, SMALL), 1);
        due("the first", x.cell(0, 0, INTS), BIG);
        due("the last", x.cell(0, 59, INTS), SMALL);
        due("one between", x.cell(0, 1, INTS), 0);
        due("the first again", x.put(0, 0, -1), 1);
        due("the first", x.cell(0, 0, INTS), -1);
    }

    @Sentence(promise = 23, says = "UNKNOWN")
    static void putIntoNoSheet() {
        PortageTrips x = new PortageTrips();
        for (int k : NO_SUCH_SHEETS) {
            due("SHEET " + k, x.put(k, 0, 0), UNKNOWN);
            dueFault("no SHEET", x, 0);
        }
    }

    @Sentence(promise = 23, says = "NULL")
    static void putIntoNothing() {
        PortageTrips x = new PortageTrips();
        due("at first", x.put(0, 0, 0), NULL);
        dueFault("nothing", x, 1);
        x.sheet(0, INTS, 2);
        x.lose(0);
        due("what was lost", x.put(0, 1, 0), NULL);
        dueFault("nothing", x, 1);
    }

    @Sentence(promise = 23, says = "INDEX")
    static void putBeyondTheCells() {
        PortageTrips x = new PortageTrips();
        for (int n : new int[] {0, 1, 5, 60}) {
            x.sheet(0, SHORTS, n);
            for (int i : new int[] {-1, n, n + 1, BIG, SMALL}) {
                due("cell " + i + " of " + n, x.put(0, i, 1), INDEX);
                dueFault("cell " + i + " of " + n, x, 3);
            }
        }
    }

    // ---------------------------------------------------------------- promise 24: cell

    @Sentence(promise = 24, says = "Cell i of what a SHEET has, taken as a row of a LANE")
    static void cellsOfEachLane() {
        PortageTrips x = new PortageTrips();
        for (int lane = 0; lane < 3; lane++) {
            write(x, lane, lane, 3, -4, 0, 127);
            dueCells("lane " + lane, x, lane, lane, 3, -4, 0, 127);
        }
        write(x, 3, INTS, SMALL, BIG);
        due("the least int", x.cell(3, 0, INTS), SMALL);
        due("the greatest int", x.cell(3, 1, INTS), BIG);
        dueFault("cell", x, 0);
    }

    @Sentence(promise = 24, says = "LOST: UNKNOWN")
    static void cellOfNoSheet() {
        PortageTrips x = new PortageTrips();
        for (int k : NO_SUCH_SHEETS) {
            x.put(0, 0, 0);
            due("SHEET " + k, x.cell(k, 0, BYTES), LOST);
            dueFault("no SHEET", x, 0);
        }
    }

    @Sentence(promise = 24, says = "OUTSIDE: lane")
    static void cellOfNoLane() {
        PortageTrips x = new PortageTrips();
        for (int lane : NO_SUCH_LANES) {
            x.put(0, 0, 0);
            due("lane " + lane + " of nothing", x.cell(0, 0, lane), LOST);
            dueFault("lane " + lane + " of nothing", x, 0);
        }
    }

    @Sentence(promise = 24, says = "FAULTS CAST (nothing is no CAST)")
    static void cellOfAnotherLane() {
        PortageTrips x = new PortageTrips();
        for (int lane = 0; lane < 3; lane++) {
            due("nothing as lane " + lane, x.cell(3, 0, lane), LOST);
            dueFault("nothing as lane " + lane, x, 1);
            write(x, lane, lane, 5);
            for (int as = 0; as < 3; as++) {
                due("lane " + lane + " as " + as, x.cell(lane, 0, as), lane == as ? 5 : LOST);
                dueFault("lane " + lane + " as " + as, x, lane == as ? 0 : 2);
            }
        }
    }

    @Sentence(promise = 24, says = "NULL")
    static void cellOfNothing() {
        PortageTrips x = new PortageTrips();
        due("at first", x.cell(0, 0, INTS), LOST);
        dueFault("at first", x, 1);
        write(x, 0, INTS, 5);
        x.lose(0);
        due("what was lost", x.cell(0, 0, INTS), LOST);
        dueFault("what was lost", x, 1);
    }

    @Sentence(promise = 24, says = "INDEX")
    static void cellBeyondTheCells() {
        PortageTrips x = new PortageTrips();
        for (int n : new int[] {0, 1, 5, 60}) {
            x.sheet(0, BYTES, n);
            for (int i : new int[] {-1, n, n + 1, BIG, SMALL}) {
                due("cell " + i + " of " + n, x.cell(0, i, BYTES), LOST);
                dueFault("cell " + i + " of " + n, x, 3);
            }
        }
    }

    // ---------------------------------------------------------------- promise 25: copy

    @Sentence(promise = 25,
        says = "n cells of a SHEET from i on go to another one (perhaps the same) from j on")
    static void copyToAnother() {
        PortageTrips x = new PortageTrips();
        for (int lane = 0; lane < 3; lane++) {
            write(x, 0, lane, 1, 2, 3, 4, 5);
            write(x, 3, lane, 6, 7, 8);
            due("two", x.copy(0, 3, 3, 1, 2), 2);
            dueCells("the other one", x, 3, lane, 6, 4, 5);
            dueCells("the first one", x, 0, lane, 1, 2, 3, 4, 5);
            due("all", x.copy(3, 0, 0, 2, 3), 3);
            dueCells("the first one", x, 0, lane, 1, 2, 6, 4, 5);
            due("none", x.copy(0, 0, 3, 0, 0), 0);
            dueCells("the other one", x, 3, lane, 6, 4, 5);
        }
    }

    @Sentence(promise = 25, says = "as they were: n")
    static void copyOverItself() {
        PortageTrips x = new PortageTrips();
        write(x, 2, INTS, 1, 2, 3, 4, 5);
        due("up", x.copy(2, 0, 2, 1, 4), 4);
        dueCells("up", x, 2, INTS, 1, 1, 2, 3, 4);
        write(x, 2, INTS, 1, 2, 3, 4, 5);
        due("down", x.copy(2, 1, 2, 0, 4), 4);
        dueCells("down", x, 2, INTS, 2, 3, 4, 5, 5);
        due("onto themselves", x.copy(2, 0, 2, 0, 5), 5);
        dueCells("onto themselves", x, 2, INTS, 2, 3, 4, 5, 5);
        x.sheet(0, BYTES, 60);
        x.sheet(1, BYTES, 60);
        due("all 60", x.copy(0, 0, 1, 0, 60), 60);
    }

    @Sentence(promise = 25, says = "UNKNOWN")
    static void copyOfNoSheet() {
        PortageTrips x = new PortageTrips();
        x.sheet(0, BYTES, 1);
        for (int k : NO_SUCH_SHEETS) {
            due("from SHEET " + k, x.copy(k, 0, 0, 0, 0), UNKNOWN);
            due("to SHEET " + k, x.copy(0, 0, k, 0, 0), UNKNOWN);
            due("to SHEET " + k + ", from nothing", x.copy(1, 0, k, 0, 0), UNKNOWN);
            dueFault("no SHEET", x, 0);
        }
    }

    @Sentence(promise = 25, says = "FAULTS NULL (the first, the other)")
    static void copyOfNothing() {
        PortageTrips x = new PortageTrips();
        x.sheet(0, BYTES, 2);
        due("from nothing", x.copy(1, 0, 0, 0, 0), NULL);
        dueFault("from nothing", x, 1);
        due("to nothing", x.copy(0, 0, 1, 0, 0), NULL);
        dueFault("to nothing", x, 1);
        due("from nothing to nothing", x.copy(1, 0, 1, 0, 0), NULL);
        dueFault("from nothing to nothing", x, 1);
    }

    @Sentence(promise = 25, says = "CAST (unlike LANES)")
    static void copyToAnotherLane() {
        PortageTrips x = new PortageTrips();
        for (int lane = 0; lane < 3; lane++) {
            for (int other = 0; other < 3; other++) {
                write(x, 0, lane, 5);
                write(x, 1, other, 6);
                String what = "lane " + lane + " to " + other;
                due(what, x.copy(0, 0, 1, 0, 1), lane == other ? 1 : CAST);
                dueFault(what, x, lane == other ? 0 : 2);
                due(what + ", none", x.copy(0, 0, 1, 0, 0), lane == other ? 0 : CAST);
                dueCells(what, x, 1, other, lane == other ? 5 : 6);
            }
        }
    }

    @Sentence(promise = 25, says = "INDEX: i, j, n below 0 or beyond")
    static void copyBeyondTheCells() {
        PortageTrips x = new PortageTrips();
        write(x, 0, INTS, 1, 2, 3, 4, 5);
        write(x, 1, INTS, 6, 7, 8);
        int[][] wrong = {{-1, 0, 0}, {0, -1, 0}, {0, 0, -1}, {-1, 0, 1}, {0, -1, 1}, {6, 0, 0}, {0, 4, 0},
            {5, 0, 1}, {0, 3, 1}, {3, 0, 3}, {0, 1, 3}, {0, 0, 4}, {0, 0, 6}, {BIG, 0, 0}, {0, BIG, 0},
            {BIG, 0, BIG}, {0, BIG, BIG}, {1, 1, BIG}, {SMALL, 0, 0}, {0, SMALL, 0}, {0, 0, SMALL}};
        for (int[] row : wrong) {
            String what = "i " + row[0] + ", j " + row[1] + ", n " + row[2];
            due(what, x.copy(0, row[0], 1, row[1], row[2]), INDEX);
            dueFault(what, x, 3);
        }
        dueCells("the other one as it was", x, 1, INTS, 6, 7, 8);
        due("none at both ends", x.copy(0, 5, 1, 3, 0), 0);
        dueFault("none at both ends", x, 0);
    }

    // ---------------------------------------------------------------- promises 26 and 27: tell, hail

    @Sentence(promise = 26, says = "TELLING of a THING")
    static void tellEachKind() {
        PortageTrips x = over("g6;52,t9,f1,c5,t1");
        int[] told = {9, 101, 110, 1};
        for (int t = 0; t < 4; t++) {
            due("THING " + t, x.tell(t), told[t]);
        }
    }

    @Sentence(promise = 26, says = "UNKNOWN")
    static void tellNoThing() {
        due("without a PORTAGE", new PortageTrips().tell(0), UNKNOWN);
        PortageTrips x = over(TWO);
        for (int t : new int[] {-1, 2, 4, BIG, SMALL}) {
            due("THING " + t, x.tell(t), UNKNOWN);
        }
        due("nothing is left in TRACE", x.trace(), 0);
    }

    @Sentence(promise = 27, says = "How it is HAILED")
    static void hailEachKind() {
        PortageTrips x = over("g6;52,c9,t1,f5,f1");
        int[] hailed = {60, 1, 2, 3};
        for (int t = 0; t < 4; t++) {
            due("THING " + t, x.hail(t), hailed[t]);
        }
    }

    @Sentence(promise = 27, says = "UNKNOWN")
    static void hailNoThing() {
        due("without a PORTAGE", new PortageTrips().hail(0), UNKNOWN);
        PortageTrips x = over(TWO);
        for (int t : new int[] {-1, 2, 4, BIG, SMALL}) {
            due("THING " + t, x.hail(t), UNKNOWN);
        }
        due("nothing is left in TRACE", x.trace(), 0);
    }

    // ---------------------------------------------------------------- promise 28: as

    @Sentence(promise = 28, says = "A THING, taken as one of a kind: 1")
    static void asItsOwnKind() {
        PortageTrips x = over("g6;52,t1,f1,c1");
        for (int kind = 0; kind < 3; kind++) {
            x.put(3, 0, 0);
            due("kind " + kind, x.as(kind, kind), 1);
            dueFault("kind " + kind, x, 0);
            due("the kind as ever", x.ofThing(kind, 0), kind);
        }
    }

    @Sentence(promise = 28, says = "UNKNOWN")
    static void asOfNoThing() {
        due("without a PORTAGE", new PortageTrips().as(0, 0), UNKNOWN);
        PortageTrips x = over(TWO);
        for (int t : new int[] {-1, 2, 4, BIG, SMALL}) {
            due("THING " + t, x.as(t, 0), UNKNOWN);
            dueFault("no THING", x, 0);
        }
    }

    @Sentence(promise = 28, says = "OUTSIDE")
    static void asOfNoKind() {
        PortageTrips x = over("g6;52,t1,f1,c1");
        for (int t = 0; t < 3; t++) {
            for (int kind : new int[] {-1, 3, BIG, SMALL}) {
                due("THING " + t + " as " + kind, x.as(t, kind), OUTSIDE);
                dueFault("no kind", x, 0);
            }
        }
    }

    @Sentence(promise = 28, says = "CAST: it is none (each is a THING, too; a CHILD is FOOD)")
    static void asAnotherKind() {
        PortageTrips x = over("g6;52,t1,f1,c1");
        int[][] answers = {{1, CAST, CAST}, {1, 1, CAST}, {1, 1, 1}};
        for (int t = 0; t < 3; t++) {
            for (int kind = 0; kind < 3; kind++) {
                due("THING " + t + " as " + kind, x.as(t, kind), answers[t][kind]);
                dueFault("THING " + t + " as " + kind, x, answers[t][kind] == CAST ? 2 : 0);
            }
        }
    }

    // ---------------------------------------------------------------- promise 29: trace

    @Sentence(promise = 29, says = "TRACE")
    static void traceOfAll() {
        PortageTrips x = over("g6;52,t9,f1,c5");
        due("at first", x.trace(), 0);
        x.tell(1);
        x.hail(0);
        x.hail(2);
        due("2, 1, then 4, then 5", x.trace(), traceOf(2, 1, 4, 5));
        due("asked again", x.trace(), traceOf(2, 1, 4, 5));
        x.as(2, 0);
        x.ofThing(2, 0);
        x.kinds(2, 0, BYTES, 0, 0);
        due("no other call leaves any", x.trace(), traceOf(2, 1, 4, 5));
        due("nor does another object", new PortageTrips().trace(), 0);
        take(x, TWO);
        due("a new TEXT has no part in it", x.trace(), traceOf(2, 1, 4, 5));
    }

    // ---------------------------------------------------------------- promise 30: fault

    /** Calls that name FAULTS, each refused. */
    private static void refuse(PortageTrips x, int which) {
        switch (which) {
            case 0 -> x.portage(4, BYTES, 0, 0);
            case 1 -> x.trips(0, 3, 0, 0, 0);
            case 2 -> x.at(9, 0, 0, BYTES, 0, 0);
            case 3 -> x.dry(0, BYTES, 0, 19, 0);
            case 4 -> x.since(-1, BYTES, 0, 0);
            case 5 -> x.kinds(-1, 0, BYTES, 0, 0);
            case 6 -> x.sheet(0, BYTES, 61);
            case 7 -> x.put(4, 0, 0);
            case 8 -> x.cell(0, 0, 3);
            case 9 -> x.copy(0, 0, 4, 0, 0);
            default -> x.as(0, 3);
        }
    }

    /** The same calls, each without a FAULT, on an object with TWO on SHEET 0 as bytes. */
    private static void askWell(PortageTrips x, int which) {
        switch (which) {
            case 0 -> x.portage(0, BYTES, 0, 14);
            case 1 -> x.trips(0, BYTES, 0, 0, 0);
            case 2 -> x.at(0, 0, 0, BYTES, 0, 0);
            case 3 -> x.dry(0, BYTES, 0, 0, 0);
            case 4 -> x.since(0, BYTES, 0, 0);
            case 5 -> x.kinds(0, 0, BYTES, 0, 0);
            case 6 -> x.sheet(2, BYTES, 0);
            case 7 -> x.put(0, 0, 'g');
            case 8 -> x.cell(0, 0, BYTES);
            case 9 -> x.copy(0, 0, 0, 0, 0);
            default -> x.as(0, 0);
        }
    }

    /** The same calls, each with a FAULT: which one. */
    private static int askWrong(PortageTrips x, int which) {
        switch (which) {
            case 0 -> x.portage(0, BYTES, 0, -1);
            case 1 -> x.trips(0, BYTES, 15, 0, 0);
            case 2 -> x.at(0, 0, 3, BYTES, 0, 0);
            case 3 -> x.dry(0, INTS, 0, 0, 0);
            case 4 -> x.since(0, BYTES, -1, 0);
            case 5 -> x.kinds(0, 0, SHORTS, 0, 0);
            case 6 -> x.sheet(2, BYTES, -1);
            case 7 -> x.put(0, 14, 0);
            case 8 -> x.cell(3, 0, BYTES);
            case 9 -> x.copy(0, 0, 3, 0, 0);
            default -> x.as(0, 2);
        }
        return new int[] {4, 3, 1, 2, 3, 2, 4, 3, 1, 1, 2}[which];
    }

    @Sentence(promise = 30, says = "The FAULT of the latest call that names one")
    static void faultOfTheLatestCall() {
        for (int which = 0; which < 11; which++) {
            PortageTrips x = over(TWO);
            int fault = askWrong(x, which);
            dueFault("call " + which, x, fault);
            dueFault("call " + which + ", asked again", x, fault);
            x.many(9);
            x.soonest();
            x.lose(9);
            x.lose(3);
            x.tell(0);
            x.hail(9);
            x.reading(9, 0, 0);
            x.back(0);
            x.trip(-1, 0);
            x.cost(0);
            x.help(99);
            x.fewest();
            x.ofStage(0, 0);
            x.ofThing(9, 0);
            x.bears(0);
            x.rain(5);
            x.boards(9, true);
            x.well(99);
            x.trace();
            dueFault("call " + which + ", then others that name none", x, fault);
        }
    }

    @Sentence(promise = 30, says = "0: it came to none")
    static void faultOfACallWithout() {
        for (int which = 0; which < 11; which++) {
            PortageTrips x = over(TWO);
            x.put(3, 0, 0);
            dueFault("put", x, 1);
            askWell(x, which);
            dueFault("call " + which + " without a FAULT", x, 0);
        }
    }

    @Sentence(promise = 30, says = "or was refused")
    static void faultOfARefusedCall() {
        for (int which = 0; which < 11; which++) {
            PortageTrips x = over(TWO);
            x.put(3, 0, 0);
            dueFault("put", x, 1);
            refuse(x, which);
            dueFault("call " + which + ", refused", x, 0);
        }
    }

    @Sentence(promise = 30, says = "(0 ahead of any)")
    static void faultAheadOfAnyCall() {
        PortageTrips x = new PortageTrips();
        dueFault("no call", x, 0);
        x.soonest();
        x.lose(9);
        dueFault("calls that name none", x, 0);
    }

    // ---------------------------------------------------------------- promise 31: many

    @Sentence(promise = 31, says = "How many: 0 STAGES")
    static void manyStages() {
        due("one", over("g6;52,t1,t2").many(0), 1);
        due("two", over(TWO).many(0), 2);
        due("three", over("g6;52;31;11,t1").many(0), 3);
    }

    @Sentence(promise = 31, says = "1 THINGS")
    static void manyThings() {
        due("one", over("g6;52;31,t1").many(1), 1);
        due("two", over("g6;52,t1,f1").many(1), 2);
        due("four", over(FOUR).many(1), 4);
    }

    @Sentence(promise = 31, says = "2 what he BEARS")
    static void manyPoundsHeBears() {
        PortageTrips x = over("g9;52,t1");
        due("by the TEXT", x.many(2), 9);
        x.bears(36);
        due("the most", x.many(2), 36);
        x.bears(1);
        due("the least", x.many(2), 1);
    }

    @Sentence(promise = 31, says = "3 READINGS")
    static void manyReadings() {
        PortageTrips x = over(TWO);
        due("none", x.many(3), 0);
        for (int k = 0; k < 9; k++) {
            x.reading(0, 0, 0);
        }
        due("eight of nine", x.many(3), 8);
        x.back(3);
        due("five", x.many(3), 5);
    }

    @Sentence(promise = 31, says = "(0 all without a PORTAGE)")
    static void manyWithoutPortage() {
        PortageTrips x = new PortageTrips();
        x.bears(5);
        x.reading(0, 0, 0);
        take(x, "g6;52;31,t1,");
        for (int what = 0; what < 4; what++) {
            due("what " + what, x.many(what), 0);
        }
    }

    @Sentence(promise = 31, says = "OUTSIDE")
    static void manyOfNoSuchWhat() {
        PortageTrips x = over(TWO);
        for (int what : new int[] {-1, 4, BIG, SMALL}) {
            due("what " + what, x.many(what), OUTSIDE);
            due("what " + what + " without a PORTAGE", new PortageTrips().many(what), OUTSIDE);
        }
    }

    // ---------------------------------------------------------------- terms of part 5: SHEETS

    @Sentence(promise = {1, 21, 22, 23, 24}, says = "SHEETS 0 .. 3 have nothing (at first)")
    static void fourSheets() {
        PortageTrips x = new PortageTrips();
        for (int k = 0; k < 4; k++) {
            due("SHEET " + k + " has nothing", x.put(k, 0, 0), NULL);
            write(x, k, INTS, k);
        }
        for (int k = 0; k < 4; k++) {
            dueCells("each has a row of its own", x, k, INTS, k);
        }
        due("SHEET -1", x.sheet(-1, INTS, 1), UNKNOWN);
        due("SHEET 4", x.sheet(4, INTS, 1), UNKNOWN);
    }

    @Sentence(promise = {21, 24}, says = "or a row of 0 .. 60 numbers (0 at first) of a LANE")
    static void rowsOfNoneTo60() {
        PortageTrips x = new PortageTrips();
        x.sheet(0, INTS, 0);
        dueCells("none", x, 0, INTS);
        x.sheet(0, INTS, 60);
        dueCells("60", x, 0, INTS, new int[60]);
        for (int i = 0; i < 60; i++) {
            x.put(0, i, 7);
        }
        x.sheet(0, INTS, 1);
        dueCells("a shorter one", x, 0, INTS, 0);
        x.sheet(0, INTS, 3);
        dueCells("a longer one", x, 0, INTS, 0, 0, 0);
        x.lose(0);
        x.sheet(0, INTS, 2);
        dueCells("one behind nothing", x, 0, INTS, 0, 0);
    }

    @Sentence(promise = {21, 23, 24, 25}, says = "0 bytes, 1 shorts, 2 ints")
    static void lanesByTheirNumbers() {
        PortageTrips x = new PortageTrips();
        long[][] ends = {{Byte.MIN_VALUE, Byte.MAX_VALUE}, {Short.MIN_VALUE, Short.MAX_VALUE}, {SMALL, BIG}};
        for (int lane = 0; lane < 3; lane++) {
            x.sheet(0, lane, 2);
            for (int i = 0; i < 2; i++) {
                x.put(0, i, (int) ends[lane][i]);
                due("an end of lane " + lane, x.cell(0, i, lane), ends[lane][i]);
            }
        }
    }

    @Sentence(promise = {2, 9, 23, 24}, says = "what comes to a cell of it is cut to its LANE")
    static void cellsAreCut() {
        PortageTrips x = new PortageTrips();
        int[] values = {127, 128, 255, 256, -128, -129, 32767, 32768, 65535, 65536, -32768, -32769, BIG, SMALL};
        for (int lane = 0; lane < 3; lane++) {
            write(x, lane, lane, values);
        }
        dueCells("bytes", x, 0, BYTES, 127, -128, -1, 0, -128, 127, -1, 0, -1, 0, 0, -1, -1, 0);
        dueCells("shorts", x, 1, SHORTS, 127, 128, 255, 256, -128, -129, 32767, -32768, -1, 0, -32768, 32767,
            -1, 0);
        dueCells("ints", x, 2, INTS, values);
        int[] text = codes("g6;52,t3");
        for (int i = 0; i < text.length; i++) {
            text[i] += 256;
        }
        write(x, 0, BYTES, text);
        due("a TEXT by bytes that were cut", x.portage(0, BYTES, 0, 8), 1);
        write(x, 1, SHORTS, text);
        due("by shorts it is none", x.portage(1, SHORTS, 0, 8), -100);
        write(x, 0, BYTES, 257, -255);
        due("TRIPS by bytes that were cut", x.trips(0, BYTES, 0, 1, 0), 8);
    }

    // ---------------------------------------------------------------- terms of part 5: TELLING

    @Sentence(promise = {26, 27, 29}, says = "TELLING of THINGS by bodies that leave their number in TRACE")
    static void bodiesLeaveTheirNumber() {
        int[][] bodies = {{1}, {2, 1}, {3, 2, 1, 1}};
        for (int t = 0; t < 3; t++) {
            PortageTrips x = over("g6;52,t9,f1,c5");
            x.tell(t);
            due("by telling THING " + t, x.trace(), traceOf(bodies[t]));
        }
    }

    @Sentence(promise = {26, 27, 29},
        says = "(an int that wraps, 0 at first, becomes 31 times it and the number)")
    static void traceWraps() {
        PortageTrips x = over("g6;52,t9,f1,c5");
        due("at first", x.trace(), 0);
        long due = 0;
        boolean hasWrapped = false;
        for (int k = 0; k < 20; k++) {
            x.tell(0);
            due = 31 * due + 1;
            hasWrapped |= due != (int) due;
            due = (int) due;
            due("behind " + (k + 1) + " bodies", x.trace(), due);
        }
        due("it has wrapped", hasWrapped ? 1 : 0, 1);
    }

    @Sentence(promise = {26, 29}, says = "as they begin")
    static void bodiesLeaveItAsTheyBegin() {
        PortageTrips x = over("g6;52,t9,f1,c5");
        x.tell(1);
        due("FOOD's ahead of THING's", x.trace(), 2 * 31 + 1);
        x = over("g6;52,t9,f1,c5");
        x.tell(2);
        due("CHILD's, FOOD's, THING's, THING's", x.trace(), ((3 * 31 + 2) * 31 + 1) * 31 + 1);
    }

    @Sentence(promise = 26, says = "THING (1): POUNDS")
    static void tellAThing() {
        PortageTrips x = over("g6;52,t1,t9");
        due("the least", x.tell(0), 1);
        due("the most", x.tell(1), 9);
        due("TRACE", x.trace(), traceOf(1, 1));
    }

    @Sentence(promise = 26, says = "FOOD (2): what THING's gives, and 100")
    static void tellFood() {
        PortageTrips x = over("g6;52,f1,f9");
        due("the least", x.tell(0), 101);
        due("the most", x.tell(1), 109);
        due("TRACE", x.trace(), traceOf(2, 1, 2, 1));
    }

    @Sentence(promise = 26, says = "CHILD (3): what FOOD's gives, and what THING's gives (FOOD's left out)")
    static void tellAChild() {
        PortageTrips x = over("g6;52,c1,c9");
        due("the least", x.tell(0), 102);
        due("the most", x.tell(1), 118);
        due("TRACE", x.trace(), traceOf(3, 2, 1, 1, 3, 2, 1, 1));
    }

    @Sentence(promise = 27, says = "HAILED by a lent body (4): its number")
    static void hailByALentBody() {
        PortageTrips x = over("g6;52,t1,f9,t5,f2");
        for (int t = 0; t < 4; t++) {
            due("THING " + t, x.hail(t), t);
        }
        due("TRACE", x.trace(), traceOf(4, 4, 4, 4));
    }

    @Sentence(promise = 27, says = "CHILDREN have their own (5): 60")
    static void hailAChild() {
        PortageTrips x = over("g6;52,c1,t1,t1,c9");
        due("the first", x.hail(0), 60);
        due("the last", x.hail(3), 60);
        due("TRACE", x.trace(), traceOf(5, 5));
    }

    public static void main(String[] args) throws IllegalAccessException {
        run(SheetsTest.class);
    }
}
