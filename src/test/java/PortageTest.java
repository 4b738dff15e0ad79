/** Part 1 of the document, the portage: the promises 1 to 8, sentence by sentence. */
public final class PortageTest extends Trial {
    private static final int[] NO_SUCH_SHEETS = {-1, 4, BIG, SMALL};
    private static final int[] NO_SUCH_LANES = {-1, 3, BIG, SMALL};

    private static void dueText(String text, int answer) {
        PortageTrips x = new PortageTrips();
        due("portage by '" + text + "'", take(x, text), answer);
        due("THINGS of '" + text + "'", x.many(1), Math.max(answer, 0));
    }

    // ---------------------------------------------------------------- promise 1: a new object

    @Sentence(promise = 1, says = "No PORTAGE (no STAGES, THINGS)")
    static void newHasNoPortage() {
        PortageTrips x = new PortageTrips();
        due("STAGES", x.many(0), 0);
        due("THINGS", x.many(1), 0);
        due("ofStage", x.ofStage(0, 0), UNKNOWN);
        due("ofThing", x.ofThing(0, 0), UNKNOWN);
        due("bears", x.bears(5), STATE);
        due("rain", x.rain(5), STATE);
        due("well", x.well(0), STATE);
        due("soonest", x.soonest(), STATE);
    }

    @Sentence(promise = 1, says = "SHEETS have nothing")
    static void newHasNoRows() {
        PortageTrips x = new PortageTrips();
        for (int k = 0; k < 4; k++) {
            due("lose(" + k + ")", x.lose(k), 0);
            due("put into SHEET " + k, x.put(k, 0, 0), NULL);
            for (int lane = 0; lane < 3; lane++) {
                due("cell of SHEET " + k, x.cell(k, 0, lane), LOST);
                dueFault("cell of SHEET " + k, x, 1);
            }
        }
    }

    // ---------------------------------------------------------------- promise 2: portage

    @Sentence(promise = 2,
        says = "A PORTAGE by a TEXT of n cells of a SHEET from i on, taken as a row of a LANE: how many THINGS")
    static void portageCountsThings() {
        String[] texts = {"g1;10,t1", "g9;94;10,t1,f9", "g5;11;22;33,c1,t2,f3", "g6;52;31;94,t3,f2,c4,t5"};
        for (int sheet = 0; sheet < 4; sheet++) {
            String text = texts[sheet];
            for (int lane = 0; lane < 3; lane++) {
                PortageTrips x = new PortageTrips();
                write(x, sheet, lane, codes("gg" + text + ",g"));
                due("THINGS of " + text, x.portage(sheet, lane, 2, text.length()), sheet + 1);
                due("BEARS by " + text, x.many(2), text.charAt(1) - '0');
                due("POUNDS of the last by " + text, x.ofThing(sheet, 1), text.charAt(text.length() - 1) - '0');
            }
        }
    }

    @Sentence(promise = 2,
        says = "A PORTAGE by a TEXT of n cells of a SHEET from i on, taken as a row of a LANE: how many THINGS")
    static void portageUpToTheLastCell() {
        PortageTrips x = new PortageTrips();
        String text = "g6;52;31;94,t3,f2,c4,t5";
        write(x, 3, INTS, codes(" ".repeat(60 - text.length()) + text));
        due("the last 23 of 60 cells", x.portage(3, INTS, 37, 23), 4);
    }

    @Sentence(promise = 2, says = "-100 less the FIRST FAULT")
    static void portageTellsTheFirstFault() {
        dueText("", -100);
        dueText("x", -100);
        dueText("gx", -101);
        dueText("g6;52,t3,f2,c4,t5!", -117);
        dueText(" ".repeat(60), -100);
        dueText("g6;52;31;94,t3,f2,c4,t5" + "x".repeat(37), -123);
    }

    @Sentence(promise = 2, says = "UNKNOWN")
    static void portageOfNoSheet() {
        PortageTrips x = over(TWO);
        for (int sheet : NO_SUCH_SHEETS) {
            due("portage of SHEET " + sheet, x.portage(sheet, BYTES, 0, 8), UNKNOWN);
            dueFault("portage of no SHEET", x, 0);
        }
    }

    @Sentence(promise = 2, says = "OUTSIDE: lane")
    static void portageOfNoLane() {
        PortageTrips x = over(TWO);
        for (int lane : NO_SUCH_LANES) {
            due("portage by lane " + lane, x.portage(0, lane, 0, 8), OUTSIDE);
            dueFault("portage by no lane", x, 0);
        }
    }

    @Sentence(promise = 2, says = "FAULTS CAST (nothing is no CAST)")
    static void portageOfAnotherLane() {
        for (int lane = 0; lane < 3; lane++) {
            for (int as = 0; as < 3; as++) {
                PortageTrips x = new PortageTrips();
                due("nothing, as lane " + as, x.portage(0, as, 0, 8), NULL);
                write(x, 0, lane, codes("g6;52,t3"));
                due("lane " + lane + " as " + as, x.portage(0, as, 0, 8), lane == as ? 1 : CAST);
                dueFault("lane " + lane + " as " + as, x, lane == as ? 0 : 2);
            }
        }
    }

    @Sentence(promise = 2, says = "NULL")
    static void portageOfNothing() {
        PortageTrips x = over(TWO);
        for (int k = 0; k < 4; k++) {
            x.lose(k);
            due("portage of SHEET " + k + " with nothing", x.portage(k, BYTES, 0, 0), NULL);
            dueFault("portage of nothing", x, 1);
        }
    }

    @Sentence(promise = 2, says = "SIZE: n is below 0")
    static void portageOfLessThanNone() {
        PortageTrips x = over(TWO);
        due("n of -1", x.portage(0, BYTES, 0, -1), SIZE);
        dueFault("n of -1", x, 4);
        due("the least n", x.portage(0, BYTES, 0, SMALL), SIZE);
        dueFault("the least n", x, 4);
        due("n of 0 is no SIZE", x.portage(0, BYTES, 0, 0), -100);
        dueFault("n of 0", x, 0);
    }

    @Sentence(promise = 2, says = "INDEX: not all cells are there")
    static void portageBeyondTheCells() {
        PortageTrips x = over("g6;52,t3");
        int[][] wrong = {{0, 9}, {1, 8}, {8, 1}, {9, 0}, {-1, 8}, {-1, 0}, {0, BIG}, {8, BIG}, {BIG, BIG},
            {BIG, 0}, {SMALL, 0}, {SMALL, BIG}};
        for (int[] row : wrong) {
            String what = "i " + row[0] + ", n " + row[1];
            due(what, x.portage(0, BYTES, row[0], row[1]), INDEX);
            dueFault(what, x, 3);
        }
        due("just all cells", x.portage(0, BYTES, 0, 8), 1);
        due("none behind the last cell", x.portage(0, BYTES, 8, 0), -100);
    }

    @Sentence(promise = 2, says = "-100 less it")
    static void portageReadsBehindTheFaults() {
        PortageTrips x = new PortageTrips();
        write(x, 0, BYTES, codes("xx"));
        due("INDEX ahead of a wrong code", x.portage(0, BYTES, 0, 3), INDEX);
        due("CAST ahead of a wrong code", x.portage(0, INTS, 0, 2), CAST);
        due("SIZE ahead of a TEXT of none", x.portage(0, BYTES, 0, -1), SIZE);
        due("all cells are there", x.portage(0, BYTES, 0, 2), -100);
        dueFault("a FIRST FAULT is none of the machine's", x, 0);
    }

    // ---------------------------------------------------------------- promise 3: ofStage

    @Sentence(promise = 3, says = "Of a STAGE: 0 LONG")
    static void longOfStages() {
        PortageTrips x = over("g6;14;90;52,t3");
        due("the least LONG", x.ofStage(0, 0), 1);
        due("the most LONG", x.ofStage(1, 0), 9);
        due("LONG", x.ofStage(2, 0), 5);
    }

    @Sentence(promise = 3, says = "1 MUD by the TEXT")
    static void mudOfStages() {
        PortageTrips x = over("g6;14;90;52,t3");
        x.rain(0);
        x.boards(0, true);
        due("the most MUD, though BOARDS lie there", x.ofStage(0, 1), 4);
        due("no MUD", x.ofStage(1, 1), 0);
        due("MUD, though it RAINS", x.ofStage(2, 1), 2);
    }

    @Sentence(promise = 3, says = "2 whether BOARDS lie over it (1, 0)")
    static void boardsOfStages() {
        PortageTrips x = over("g6;14;90;52,t3");
        x.boards(2, true);
        due("none", x.ofStage(0, 2), 0);
        due("none", x.ofStage(1, 2), 0);
        due("BOARDS", x.ofStage(2, 2), 1);
        x.boards(2, false);
        due("none any more", x.ofStage(2, 2), 0);
    }

    @Sentence(promise = 3, says = "UNKNOWN")
    static void ofNoStage() {
        due("STAGE 0 of no PORTAGE", new PortageTrips().ofStage(0, 0), UNKNOWN);
        String text = "g6";
        for (int stages = 1; stages <= 3; stages++) {
            text += ";52";
            PortageTrips x = over(text + ",t3");
            due("the last STAGE", x.ofStage(stages - 1, 0), 5);
            for (int k : new int[] {-1, stages, BIG, SMALL}) {
                due("STAGE " + k + " of " + stages, x.ofStage(k, 0), UNKNOWN);
            }
        }
    }

    @Sentence(promise = 3, says = "OUTSIDE")
    static void ofStageNoSuchWhat() {
        PortageTrips x = over(TWO);
        for (int what : new int[] {-1, 3, BIG, SMALL}) {
            due("what " + what, x.ofStage(1, what), OUTSIDE);
        }
    }

    // ---------------------------------------------------------------- promise 4: ofThing

    @Sentence(promise = 4, says = "Of a THING: 0 kind")
    static void kindOfThings() {
        PortageTrips x = over("g6;52,c1,t9,f5,t2");
        int[] kinds = {2, 0, 1, 0};
        for (int t = 0; t < 4; t++) {
            due("kind of THING " + t, x.ofThing(t, 0), kinds[t]);
        }
    }

    @Sentence(promise = 4, says = "1 POUNDS")
    static void poundsOfThings() {
        PortageTrips x = over("g6;52,c1,t9,f5,t2");
        int[] pounds = {1, 9, 5, 2};
        for (int t = 0; t < 4; t++) {
            due("POUNDS of THING " + t, x.ofThing(t, 1), pounds[t]);
        }
    }

    @Sentence(promise = 4, says = "UNKNOWN")
    static void ofNoThing() {
        due("THING 0 of no PORTAGE", new PortageTrips().ofThing(0, 0), UNKNOWN);
        String text = "g6;52";
        for (int things = 1; things <= 4; things++) {
            text += ",t3";
            PortageTrips x = over(text);
            due("the last THING", x.ofThing(things - 1, 1), 3);
            for (int t : new int[] {-1, things, BIG, SMALL}) {
                due("THING " + t + " of " + things, x.ofThing(t, 0), UNKNOWN);
            }
        }
    }

    @Sentence(promise = 4, says = "OUTSIDE")
    static void ofThingNoSuchWhat() {
        PortageTrips x = over(TWO);
        for (int what : new int[] {-1, 2, BIG, SMALL}) {
            due("what " + what, x.ofThing(1, what), OUTSIDE);
        }
    }

    // ---------------------------------------------------------------- promise 5: bears

    @Sentence(promise = 5, says = "He BEARS v (1 .. 36)")
    static void bearsFromOneOn() {
        PortageTrips x = told("g9;10,t9,t9,t9,t9", 1, 15);
        x.bears(36);
        due("he BEARS 36", x.many(2), 36);
        due("36 POUNDS by 36", firstWrong(x, 1), NONE);
        x.bears(35);
        due("36 POUNDS by 35", firstWrong(x, 1), 0);
        x = told("g9;10,t1,t2", 1, 1, 0, 0, 1, 2);
        x.bears(1);
        due("he BEARS 1", x.many(2), 1);
        due("1 POUND by 1, 2 not", firstWrong(x, 3), 2);
    }

    @Sentence(promise = 5, says = "what he bore")
    static void bearsTellsWhatHeBore() {
        PortageTrips x = over(TWO);
        due("by the TEXT", x.bears(1), 9);
        due("the least", x.bears(36), 1);
        due("the most", x.bears(36), 36);
        due("as much again", x.bears(9), 36);
    }

    @Sentence(promise = 5, says = "OUTSIDE")
    static void bearsTooLittleTooMuch() {
        PortageTrips x = over(TWO);
        for (int v : new int[] {0, -1, 37, BIG, SMALL}) {
            due("bears(" + v + ")", x.bears(v), OUTSIDE);
            due("what he BEARS", x.many(2), 9);
        }
    }

    @Sentence(promise = 5, says = "STATE: there is no PORTAGE")
    static void bearsWithoutPortage() {
        PortageTrips x = new PortageTrips();
        due("bears(1)", x.bears(1), STATE);
        due("bears(36)", x.bears(36), STATE);
        take(x, "g6;52");
        due("a TEXT that is not taken makes none", x.bears(5), STATE);
        due("what he BEARS", x.many(2), 0);
    }

    // ---------------------------------------------------------------- promise 6: rain

    @Sentence(promise = 6, says = "It RAINS from MINUTE v (0 .. 99; NONE: never) on")
    static void rainsFromTheFirstToTheLastMinute() {
        // 9 and MUD 2 make 11 a TRIP: the first begins in MINUTE 0, the tenth in 99.
        PortageTrips x = told("g9;92,t1", toAndFro(10, 1));
        x.rain(0);
        due("from 0 on, the first TRIP", minutes(x, 1), 13);
        due("from 0 on, ten TRIPS", minutes(x, 10), 130);
        x.rain(1);
        due("from 1 on, the first TRIP", minutes(x, 1), 11);
        x.rain(99);
        due("from 99 on, nine TRIPS", minutes(x, 9), 99);
        due("from 99 on, the tenth", minutes(x, 10), 112);
    }

    @Sentence(promise = 6, says = "NONE: never")
    static void rainsNever() {
        PortageTrips x = told("g9;92,t1", toAndFro(10, 1));
        x.rain(0);
        x.rain(NONE);
        due("ten TRIPS", minutes(x, 10), 110);
        due("SOONEST", x.soonest(), 11);
    }

    @Sentence(promise = 6, says = "from which it did (NONE)")
    static void rainTellsSinceWhen() {
        PortageTrips x = over(TWO);
        due("never, at first", x.rain(0), NONE);
        due("from 0 on", x.rain(99), 0);
        due("from 99 on", x.rain(99), 99);
        due("from 99 on", x.rain(NONE), 99);
        due("never", x.rain(NONE), NONE);
        due("never", x.rain(5), NONE);
    }

    @Sentence(promise = 6, says = "OUTSIDE")
    static void rainInNoSuchMinute() {
        PortageTrips x = over(TWO);
        x.rain(7);
        for (int v : new int[] {-1, -8, -10, 100, BIG, SMALL}) {
            due("rain(" + v + ")", x.rain(v), OUTSIDE);
        }
        due("it still RAINS from 7 on", x.rain(NONE), 7);
    }

    @Sentence(promise = 6, says = "STATE: there is no PORTAGE")
    static void rainWithoutPortage() {
        PortageTrips x = new PortageTrips();
        due("rain(0)", x.rain(0), STATE);
        due("rain(99)", x.rain(99), STATE);
        due("rain(NONE)", x.rain(NONE), STATE);
    }

    // ---------------------------------------------------------------- promise 7: boards

    @Sentence(promise = 7, says = "BOARDS lie over a STAGE (true), or not: 1")
    static void boardsLaidAndTaken() {
        PortageTrips x = over("g6;14;90;52,t3");
        for (int k = 0; k < 3; k++) {
            due("laid over STAGE " + k, x.boards(k, true), 1);
            due("BOARDS over STAGE " + k, x.ofStage(k, 2), 1);
        }
        due("taken off", x.boards(0, false), 1);
        due("no BOARDS", x.ofStage(0, 2), 0);
        due("the others still have them", x.ofStage(1, 2) + x.ofStage(2, 2), 2);
    }

    @Sentence(promise = 7, says = "0: it was so")
    static void boardsAsTheyWere() {
        PortageTrips x = over(TWO);
        due("none taken off", x.boards(1, false), 0);
        x.boards(1, true);
        due("laid again", x.boards(1, true), 0);
        due("BOARDS", x.ofStage(1, 2), 1);
    }

    @Sentence(promise = 7, says = "UNKNOWN")
    static void boardsOverNoStage() {
        due("without a PORTAGE", new PortageTrips().boards(0, false), UNKNOWN);
        PortageTrips x = over(TWO);
        for (int k : new int[] {-1, 2, 3, BIG, SMALL}) {
            due("laid over STAGE " + k, x.boards(k, true), UNKNOWN);
            due("taken off STAGE " + k, x.boards(k, false), UNKNOWN);
        }
        due("no BOARDS", x.ofStage(0, 2) + x.ofStage(1, 2), 0);
    }

    // ---------------------------------------------------------------- promise 8: well

    @Sentence(promise = 8,
        says = "THINGS that are WELL without him, if just those of a set were at one SPOT, as a set")
    static void wellOfEachSet() {
        PortageTrips x = over(FOUR);
        int[] well = {0, 1, 0, 3, 0, 5, 2, 3, 8, 9, 10, 11, 12, 13, 10, 11};
        for (int set = 0; set < 16; set++) {
            due("well(" + set + ")", x.well(set), well[set]);
        }
    }

    @Sentence(promise = 8, says = "OUTSIDE: set (a bit of no THING)")
    static void wellOfNoThing() {
        String text = "g6;52";
        for (int things = 1; things <= 4; things++) {
            text += ",t3";
            PortageTrips x = over(text);
            int all = (1 << things) - 1;
            due("all of " + things, x.well(all), all);
            for (int set : new int[] {1 << things, all + 2, -1, BIG, SMALL, SMALL + 1}) {
                due("well(" + set + ") of " + things, x.well(set), OUTSIDE);
            }
        }
    }

    @Sentence(promise = 8, says = "STATE: there is no PORTAGE")
    static void wellWithoutPortage() {
        due("well(0)", new PortageTrips().well(0), STATE);
    }

    // ---------------------------------------------------------------- terms of part 1: the TEXT

    @Sentence(promise = 2, says = "A PORTAGE by a TEXT: g")
    static void textBeginsByG() {
        dueText("g6;52,t3", 1);
        dueText("6;52,t3", -100);
        dueText("f6;52,t3", -100);
        dueText("h6;52,t3", -100);
    }

    @Sentence(promise = {2, 31}, says = "a digit 1 .. 9 (BEARS)")
    static void textTellsWhatHeBears() {
        due("the least", over("g1;52,t3").many(2), 1);
        due("the most", over("g9;52,t3").many(2), 9);
        dueText("g0;52,t3", -101);
        dueText("g:;52,t3", -101);
        dueText("g/;52,t3", -101);
        dueText("g10;52,t3", -102);
    }

    @Sentence(promise = {2, 3, 31}, says = "then 1 to 3 STAGES, numbered from 0 on")
    static void textHasOneToThreeStages() {
        dueText("g6,t3", -102);
        PortageTrips x = over("g6;10,t3");
        due("one STAGE", x.many(0), 1);
        x = over("g6;10;20;30,t3");
        due("three STAGES", x.many(0), 3);
        for (int k = 0; k < 3; k++) {
            due("LONG of STAGE " + k, x.ofStage(k, 0), k + 1);
        }
        dueText("g6;10;20;30;40,t3", -111);
    }

    @Sentence(promise = {2, 3}, says = "each: ; and a digit 1 .. 9 (LONG)")
    static void textTellsHowLong() {
        due("the least", over("g6;12,t3").ofStage(0, 0), 1);
        due("the most", over("g6;92,t3").ofStage(0, 0), 9);
        dueText("g6;02,t3", -103);
        dueText("g6;:2,t3", -103);
        dueText("g6;/2,t3", -103);
        dueText("g6;52;02,t3", -106);
        dueText("g6:52,t3", -102);
        dueText("g652,t3", -102);
    }

    @Sentence(promise = {2, 3}, says = "a digit 0 .. 4 (MUD)")
    static void textTellsHowMuddy() {
        due("the least", over("g6;50,t3").ofStage(0, 1), 0);
        due("the most", over("g6;54,t3").ofStage(0, 1), 4);
        dueText("g6;55,t3", -104);
        dueText("g6;5/,t3", -104);
        dueText("g6;59,t3", -104);
        dueText("g6;5,t3", -104);
    }

    @Sentence(promise = {2, 4, 31}, says = "then 1 to 4 THINGS, numbered from 0 on")
    static void textHasOneToFourThings() {
        dueText("g6;52", -105);
        dueText("g6;52,t1", 1);
        dueText("g6;52,t1,t2,t3,t4", 4);
        PortageTrips x = over("g6;52,t1,t2,t3,t4");
        for (int t = 0; t < 4; t++) {
            due("POUNDS of THING " + t, x.ofThing(t, 1), t + 1);
        }
        dueText("g6;52,t1,t2,t3,t4,t5", -117);
    }

    @Sentence(promise = {2, 4}, says = "each: , and a letter, a digit 1 .. 9 (POUNDS)")
    static void textTellsOfThings() {
        due("the least", over("g6;52,t1").ofThing(0, 1), 1);
        due("the most", over("g6;52,t9").ofThing(0, 1), 9);
        dueText("g6;52,t0", -107);
        dueText("g6;52,t:", -107);
        dueText("g6;52,t/", -107);
        dueText("g6;52,t1,f0", -110);
        dueText("g6;52,33", -106);
        dueText("g6;52,,t3", -106);
        dueText("g6;52t3", -105);
        dueText("g6;52,t3f2", -108);
        dueText("g6;52,t33", -108);
    }

    @Sentence(promise = 2,
        says = "FIRST FAULT: the place (from 0 on) of the first code with which no TEXT goes on")
    static void firstFaultIsTheFirstPlace() {
        dueText("!6;52,t3", -100);
        dueText("g!;52,t3", -101);
        dueText("g6!52,t3", -102);
        dueText("g6;!2,t3", -103);
        dueText("g6;5!,t3", -104);
        dueText("g6;52!t3", -105);
        dueText("g6;52,!3", -106);
        dueText("g6;52,t!", -107);
        dueText("g6;52,t3!", -108);
        dueText("g6;52,t3;31", -108);
        dueText("g6!52!t3!", -102);
    }

    @Sentence(promise = 2,
        says = "FIRST FAULT: the place (from 0 on) of the first code with which no TEXT goes on")
    static void firstFaultCountsFromTheTextOn() {
        PortageTrips x = new PortageTrips();
        write(x, 0, BYTES, codes("......g6;52,t0"));
        due("place 7 of a TEXT from cell 6 on", x.portage(0, BYTES, 6, 8), -107);
    }

    @Sentence(promise = 2, says = "(the ; of a fourth STAGE")
    static void firstFaultOfAFourthStage() {
        dueText("g6;10;20;30;", -111);
        dueText("g6;10;20;30;!!", -111);
        dueText("g6;10;20;30;40,t3", -111);
    }

    @Sentence(promise = 2, says = "the , of a fifth THING)")
    static void firstFaultOfAFifthThing() {
        dueText("g6;52,t1,t2,t3,t4,", -117);
        dueText("g6;52,t1,t2,t3,t4,!!", -117);
        dueText("g6;52,t1,t2,t3,t4,t5", -117);
    }

    @Sentence(promise = 2, says = "how many codes there are, if it just ends too soon")
    static void firstFaultOfATextTooShort() {
        String text = "g6;52;31,t3,f2";
        // Behind its eleventh and its last code it is a TEXT.
        int[] answers = {-100, -101, -102, -103, -104, -105, -106, -107, -108, -109, -110, 1, -112, -113, 2};
        for (int n = 0; n <= text.length(); n++) {
            dueText(text.substring(0, n), answers[n]);
        }
    }

    @Sentence(promise = 2, says = "(Codes: g 103, t 116, f 102, c 99, ; 59, comma 44, digits 48 .. 57.)")
    static void textByCodes() {
        int[] text = {103, 57, 59, 49, 48, 59, 57, 52, 44, 116, 49, 44, 102, 53, 44, 99, 57};
        PortageTrips x = new PortageTrips();
        write(x, 0, INTS, text);
        due("THINGS", x.portage(0, INTS, 0, text.length), 3);
        due("BEARS", x.many(2), 9);
        due("LONG", x.ofStage(0, 0), 1);
        due("MUD", x.ofStage(1, 1), 4);
        due("POUNDS", x.ofThing(2, 1), 9);
        for (int place = 0; place < text.length; place++) {
            int code = text[place];
            for (int other : new int[] {code + 256, code + 65536, -code, SMALL + code}) {
                x.put(0, place, other);
                due("code " + other + " at " + place, x.portage(0, INTS, 0, text.length), -100 - place);
            }
            x.put(0, place, code);
        }
    }

    @Sentence(promise = 2, says = "(Codes: g 103, t 116, f 102, c 99, ; 59, comma 44, digits 48 .. 57.)")
    static void textByCapitals() {
        dueText("G6;52,t3", -100);
        dueText("g6;52,T3", -106);
        dueText("g6;52,F3", -106);
        dueText("g6;52,C3", -106);
    }

    @Sentence(promise = {2, 4, 28}, says = "Kinds: 0 THING (t); 1 FOOD (f), a THING; 2 CHILD (c), a FOOD")
    static void kindsByLetters() {
        PortageTrips x = over("g6;52,t3,f3,c3");
        for (int kind = 0; kind < 3; kind++) {
            due("kind", x.ofThing(kind, 0), kind);
            due("each is a THING", x.as(kind, 0), 1);
        }
        due("a CHILD is a FOOD", x.as(2, 1), 1);
        for (char letter : new char[] {'a', 'b', 'd', 'e', 'g', 's', 'u'}) {
            dueText("g6;52," + letter + "3", -106);
        }
    }

    // ---------------------------------------------------------------- terms of part 1: all anew

    /** Whatever can be set is set, and whatever tries a change has been asked. */
    private static PortageTrips inRainOnBoards() {
        PortageTrips x = told(TWO, 1, 3);
        x.rain(3);
        x.boards(0, true);
        x.boards(1, true);
        x.bears(30);
        x.reading(1, 2, 50);
        x.soonest();
        x.fewest();
        x.cost(0);
        x.help(1);
        x.kinds(0, 1, INTS, 0, 1);
        x.since(1, INTS, 0, 1);
        return x;
    }

    @Sentence(promise = {2, 6}, says = "A TEXT that is taken makes all anew: no RAIN")
    static void textEndsTheRain() {
        PortageTrips x = inRainOnBoards();
        take(x, TWO);
        due("SOONEST in the dry", x.soonest(), 13);
        due("it RAINS never", x.rain(NONE), NONE);
    }

    @Sentence(promise = {2, 3, 7}, says = "no BOARDS")
    static void textTakesTheBoards() {
        PortageTrips x = inRainOnBoards();
        take(x, "g6;52;31;44,t3");
        for (int k = 0; k < 3; k++) {
            due("BOARDS over STAGE " + k, x.ofStage(k, 2), 0);
        }
    }

    @Sentence(promise = {2, 17, 31}, says = "no READINGS")
    static void textTakesTheReadings() {
        PortageTrips x = inRainOnBoards();
        take(x, TWO);
        due("READINGS", x.many(3), 0);
        plan(x, 1, 3);
        due("none is at odds with the TRIPS", x.kinds(0, 1, INTS, 0, 1), 7);
        due("the next one's number", x.reading(0, 0, 0), 0);
    }

    @Sentence(promise = {2, 12, 14, 31}, says = "A TEXT that is taken makes all anew: no RAIN")
    static void textMakesAllAnew() {
        PortageTrips x = inRainOnBoards();
        take(x, "g4;70,t3,t4,t1");
        due("STAGES", x.many(0), 1);
        due("THINGS", x.many(1), 3);
        due("BEARS", x.many(2), 4);
        due("the second STAGE is gone", x.ofStage(1, 0), UNKNOWN);
        due("SOONEST: 7 and 1, 7, 7 and 1", x.soonest(), 23);
        due("FEWEST", x.fewest(), 3);
    }

    @Sentence(promise = 2, says = "-100 less the FIRST FAULT")
    static void wrongTextMakesNothingAnew() {
        PortageTrips x = inRainOnBoards();
        due("a TEXT too short", take(x, "g4;70;11;22,t3,t4,t1,"), -121);
        due("STAGES", x.many(0), 2);
        due("THINGS", x.many(1), 2);
        due("BEARS", x.many(2), 30);
        due("READINGS", x.many(3), 1);
        due("BOARDS", x.ofStage(0, 2) + x.ofStage(1, 2), 2);
        due("POUNDS", x.ofThing(0, 1), 3);
        due("SOONEST over BOARDS", x.soonest(), 10);
        due("RAIN", x.rain(NONE), 3);
    }

    // ---------------------------------------------------------------- terms of part 1: SPOTS

    @Sentence(promise = {9, 17}, says = "SPOTS: as many as STAGES and one")
    static void oneSpotMoreThanStages() {
        String text = "g6";
        for (int stages = 1; stages <= 3; stages++) {
            text += ";52";
            PortageTrips x = told(text + ",t3", stages + 1, 0, 0, 0);
            due("the last SPOT", x.reading(0, stages, 0), 0);
            due("no SPOT behind it", x.reading(0, stages + 1, 0), UNKNOWN);
            due("no TRIP to a SPOT behind it", x.trips(1, INTS, 0, 1, 1), UNKNOWN);
            for (int k = 0; k < 4; k++) {
                due("THINGS at SPOT " + k, trips(x, 0, 10 + k), k == 0 ? 1 : k <= stages ? 0 : NONE);
            }
        }
    }

    @Sentence(promise = {3, 7, 9}, says = "STAGE k lies between SPOT k and the next one")
    static void stagesBetweenSpots() {
        PortageTrips x = told("g9;10;30;50,t1", 1, 0, 2, 0, 3, 0, 2, 0, 1, 0, 0, 0);
        int[] minutes = {0, 1, 4, 9, 14, 17, 18};
        for (int n = 0; n < minutes.length; n++) {
            due("MINUTES of " + n + " TRIPS", minutes(x, n), minutes[n]);
        }
    }

    @Sentence(promise = 9, says = "One who carries, and all THINGS, are at SPOT 0 at first, MINUTE 0")
    static void allAtSpotZeroAtFirst() {
        PortageTrips x = told(FOUR);
        due("MINUTES", trips(x, 0, 0), 0);
        due("he", trips(x, 0, 2), 0);
        due("THINGS at SPOT 0", trips(x, 0, 10), 15);
        due("THINGS at SPOT 1", trips(x, 0, 11), 0);
        due("THINGS at SPOT 2", trips(x, 0, 12), 0);
    }

    // ---------------------------------------------------------------- terms of part 1: WELL

    @Sentence(promise = {8, 9}, says = "WELL without him: one of kind 0 always")
    static void plainOnesAreAlwaysWell() {
        PortageTrips x = over("g9;10,t1,f1,c1,t1");
        for (int set = 0; set < 16; set++) {
            due("plain ones of " + set, x.well(set) & 9, set & 9);
        }
        plan(x, 1, 14, 0, 0);
        due("a plain one alone may stay", firstWrong(x, 1), NONE);
    }

    @Sentence(promise = {8, 9}, says = "one of kind 1, if another THING (of any kind) is at its SPOT")
    static void foodMustNotLieAlone() {
        PortageTrips x = over("g9;10,f1,t1,f1,c1");
        due("alone", x.well(1), 0);
        due("with a plain one", x.well(3), 3);
        due("with FOOD", x.well(5), 5);
        due("with a CHILD", x.well(9), 1);
        plan(x, 1, 14);
        due("no TRIP that leaves it alone", firstWrong(x, 1), 0);
    }

    @Sentence(promise = {8, 9}, says = "a CHILD, if another THING is there")
    static void childMustNotBeAlone() {
        PortageTrips x = over("g9;10,c1,t1,c1");
        due("alone", x.well(1), 0);
        due("with a plain one", x.well(3), 3);
        due("with a CHILD", x.well(5), 5);
        plan(x, 1, 6);
        due("no TRIP that leaves it alone", firstWrong(x, 1), 0);
    }

    @Sentence(promise = {8, 9}, says = "and none of kind 1 is")
    static void childMustNotBeWithFood() {
        PortageTrips x = over("g9;10,c1,t1,f1,c1");
        due("with FOOD", x.well(5), 4);
        due("with FOOD and a plain one", x.well(7), 6);
        due("with FOOD and a CHILD", x.well(13), 4);
        due("with a CHILD and a plain one", x.well(11), 11);
        plan(x, 1, 8);
        due("no TRIP that leaves it with FOOD", firstWrong(x, 1), 0);
    }

    public static void main(String[] args) throws IllegalAccessException {
        run(PortageTest.class);
    }
}
