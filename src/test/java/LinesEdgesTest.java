/** Each sentence on the hull and its lines that names a boundary: terms, and promises 1 to 5. */
final class LinesEdgesTest {
    private static final String TERMS = "Terms, The hull";
    private static final String MADE = "Promise 1, a new object";
    private static final String OFFSET = "Promise 2, offset";
    private static final String HALF = "Promise 3, half";
    private static final String BEND = "Promise 4, bend";
    private static final String FAIR = "Promise 5, fair";
    private static final String FIRST_NAMED = "If several exceptions apply, the one that is named first"
            + " in the throws clause is thrown.";
    private static final String CHANGES_NOTHING = "A call that throws an exception changes nothing.";
    private static final int LOW = Integer.MIN_VALUE;
    private static final int HIGH = Integer.MAX_VALUE;

    private static final Check CHECK = new Check();

    public static void main(String[] args) {
        newObject();
        stationsAndWaterlines();
        halfBreadths();
        lineThroughNine();
        bendOverStations();
        bendOfSquares();
        usedFor512Calls();
        offsetTaken();
        offsetRefused();
        halfTakenAndRefused();
        bendTakenAndRefused();
        withinTolerance();
        toleranceTaken();
        from0To200();
        bendIsTheLeast();
        lowerFromTheStation0On();
        fairReturns();
        fairRefused();
        CHECK.finish("LinesEdgesTest");
    }

    private static Run run(String where, String sentence) {
        return new Run(CHECK, where, sentence);
    }

    private static void newObject() {
        Run breadth = run(MADE, "A hull without breadth");
        for (int station = 0; station < 9; station++) {
            for (int waterline = 0; waterline < 6; waterline++) {
                breadth.gives("half " + station + " " + waterline, 0);
            }
        }
        breadth.gives("area 0 5", 0).gives("area 8 5", 0).gives("volume 5", 0).gives("volumeAnew 5", 0);
        breadth.gives("bend 0", 0).gives("bend 5", 0).gives("strake 0", 80).gives("strake 4", 80);
        run(MADE, "no weights").refuses("change 0 0 0", Calls.INDEX).gives("draught", 0)
                .gives("trim", 0).gives("weigh 8 1", 0);
        run(MADE, "the day 0").gives("day", 0).gives("launch", 3).gives("pass 1", 1);
        run(MADE, "the day 0").gives("pass 99", 99);
    }

    private static void stationsAndWaterlines() {
        Run each = run(TERMS, "A hull has the stations 0 to 8 and the waterlines 0 to 5.");
        for (int station = 0; station < 9; station++) {
            for (int waterline = 0; waterline < 6; waterline++) {
                each.gives("offset " + station + " " + waterline + " " + (6 * station + waterline + 1), 0);
            }
        }
        for (int station = 0; station < 9; station++) {
            for (int waterline = 0; waterline < 6; waterline++) {
                each.gives("half " + station + " " + waterline, 6 * station + waterline + 1);
            }
        }
        // numbers that fit the other one of both alone
        each.refuses("offset 0 6 1", Calls.INDEX).refuses("offset 0 8 1", Calls.INDEX);
        each.refuses("half 5 8", Calls.INDEX).gives("half 8 5", 54).gives("half 5 5", 36);
    }

    private static void halfBreadths() {
        run(TERMS, "At each station and waterline it has a half breadth, 0 to 200, 0 at first.")
                .gives("half 0 0", 0).gives("half 8 5", 0)
                .gives("offset 0 0 200", 0).gives("offset 8 5 200", 0)
                .gives("offset 0 5 200", 0).gives("offset 8 0 200", 0)
                .gives("half 0 0", 200).gives("half 8 5", 200).gives("half 0 5", 200).gives("half 8 0", 200)
                .gives("offset 0 0 0", 200).gives("half 0 0", 0).gives("half 8 5", 200);
    }

    private static void lineThroughNine() {
        int[] due = {1, 5, 6, 6, 6, 6, 6, 5, 1};
        Run nine = run(TERMS, "The line of a waterline goes through its nine half breadths.");
        for (int station = 0; station < 9; station++) {
            nine.gives("offset " + station + " 2 1", 0).gives("bend 2", due[station]);
            nine.gives("bend 1", 0).gives("bend 3", 0).gives("offset " + station + " 2 0", 1);
        }
    }

    private static void bendOverStations() {
        String sentence = "The bend of a line is the sum, over the stations 1 to 7, of the square of:";
        // only the first and the last station are out of line with their neighbours
        run(TERMS, sentence).line(0, 9, 10, 10, 10, 10, 10, 10, 10, 7).gives("bend 0", 1 + 9);
        // at the ends themselves nothing is squared: this line is straight
        run(TERMS, sentence).line(5, 200, 175, 150, 125, 100, 75, 50, 25, 0).gives("bend 5", 0);
    }

    private static void bendOfSquares() {
        String sentence = "the half breadths at both neighbours together, less 2 times that at the station.";
        run(TERMS, sentence).line(3, 0, 200, 0, 200, 0, 200, 0, 200, 0).gives("bend 3", 7 * 160000);
        run(TERMS, sentence).line(3, 200, 0, 200, 0, 200, 0, 200, 0, 200).gives("bend 3", 7 * 160000);
        run(TERMS, sentence).line(3, 3, 5, 4).gives("bend 3", 9 + 9 + 16);
    }

    private static void usedFor512Calls() {
        Run all = run("The document", "An object is used for at most 512 calls after it has been made");
        all.gives("weigh 8 0", 0);
        for (int call = 2; call < 511; call++) {
            all.gives("offset 4 0 " + call % 200, call == 2 ? 0 : (call - 1) % 200);
        }
        all.gives("ballast 99", 0).gives("offset 4 0 7", 110);
    }

    private static void offsetTaken() {
        run(OFFSET, "`half`: 0 to 200").gives("offset 4 3 0", 0).gives("offset 4 3 200", 0)
                .gives("offset 4 3 1", 200).gives("offset 4 3 199", 1).gives("half 4 3", 199)
                .refuses("offset 4 3 -1", Calls.ARGUMENT).refuses("offset 4 3 201", Calls.ARGUMENT)
                .gives("offset 4 3 0", 199);
        run(OFFSET, "Returns what it was.").gives("offset 8 5 17", 0).gives("offset 8 5 17", 17)
                .gives("offset 8 5 0", 17).gives("offset 8 5 3", 0).gives("offset 7 5 9", 0)
                .gives("offset 8 4 6", 0).gives("half 8 5", 3).gives("half 7 5", 9).gives("half 8 4", 6);
    }

    private static void offsetRefused() {
        run(OFFSET, "Throws `IndexOutOfBoundsException` as told, of both")
                .refuses("offset -1 0 1", Calls.INDEX).refuses("offset 9 0 1", Calls.INDEX)
                .refuses("offset 0 -1 1", Calls.INDEX).refuses("offset 0 6 1", Calls.INDEX)
                .refuses("offset 9 6 1", Calls.INDEX).refuses("offset " + LOW + " 0 1", Calls.INDEX)
                .refuses("offset 0 " + HIGH + " 1", Calls.INDEX)
                .gives("offset 0 0 1", 0).gives("offset 8 0 1", 0).gives("offset 0 5 1", 0);
        run(OFFSET, "Throws `IllegalArgumentException` if half is out of range")
                .refuses("offset 0 0 -1", Calls.ARGUMENT).refuses("offset 8 5 201", Calls.ARGUMENT)
                .refuses("offset 0 5 " + LOW, Calls.ARGUMENT).refuses("offset 8 0 " + HIGH, Calls.ARGUMENT);
        run(OFFSET, "Throws `IllegalStateException` if it is launched").gives("offset 4 0 7", 0)
                .gives("launch", 3).refuses("offset 4 0 8", Calls.STATE).refuses("offset 4 0 7", Calls.STATE)
                .refuses("offset 0 0 0", Calls.STATE).refuses("offset 8 5 200", Calls.STATE);
        run(OFFSET, FIRST_NAMED).refuses("offset 9 0 201", Calls.INDEX).refuses("offset 0 6 -1", Calls.INDEX)
                .gives("launch", 3).refuses("offset 0 0 201", Calls.ARGUMENT)
                .refuses("offset 0 0 -1", Calls.ARGUMENT).refuses("offset -1 0 0", Calls.INDEX)
                .refuses("offset 0 -1 0", Calls.INDEX).refuses("offset -1 6 201", Calls.INDEX);
        run(OFFSET, CHANGES_NOTHING).equip().refuses("offset 9 2 77", Calls.INDEX)
                .refuses("offset 3 6 77", Calls.INDEX).refuses("offset 3 2 201", Calls.ARGUMENT)
                .refuses("offset 3 2 -1", Calls.ARGUMENT).makes("launch")
                .refuses("offset 3 2 77", Calls.STATE).gives("half 3 2", 120);
    }

    private static void halfTakenAndRefused() {
        run(HALF, "Returns a half breadth.").gives("offset 0 0 200", 0).gives("offset 8 5 1", 0)
                .gives("half 0 0", 200).gives("half 8 5", 1).gives("half 0 5", 0).gives("half 8 0", 0)
                .makes("pass 2").makes("tide 2 90").makes("launch").gives("half 0 0", 200).gives("half 8 5", 1);
        run(HALF, "Throws `IndexOutOfBoundsException` as told, of both").equip()
                .refuses("half -1 0", Calls.INDEX).refuses("half 9 0", Calls.INDEX)
                .refuses("half 0 -1", Calls.INDEX).refuses("half 0 6", Calls.INDEX)
                .refuses("half -1 -1", Calls.INDEX).refuses("half " + HIGH + " 0", Calls.INDEX)
                .refuses("half 0 " + LOW, Calls.INDEX);
    }

    private static void bendTakenAndRefused() {
        run(BEND, "Returns the bend of a line.").line(0, 0, 0, 3).line(5, 0, 0, 0, 0, 0, 0, 0, 0, 4)
                .gives("bend 0", 9 + 36 + 9).gives("bend 5", 16).gives("bend 1", 0).gives("bend 4", 0)
                .makes("launch").gives("bend 0", 9 + 36 + 9);
        run(BEND, "Throws `IndexOutOfBoundsException` as told").equip().refuses("bend -1", Calls.INDEX)
                .refuses("bend 6", Calls.INDEX).refuses("bend 8", Calls.INDEX)
                .refuses("bend " + LOW, Calls.INDEX).refuses("bend " + HIGH, Calls.INDEX);
    }

    private static void withinTolerance() {
        String sentence = "each unlike the one that was there by the tolerance at most";
        run(TERMS, sentence).line(2, 0, 0, 0, 0, 200, 0, 0, 0, 0).gives("fair 2 0", 0)
                .hasLine(2, 0, 0, 0, 0, 200, 0, 0, 0, 0);
        run(TERMS, sentence).line(2, 50, 50, 50, 50, 200, 50, 50, 50, 50).gives("fair 2 1", 4744)
                .hasLine(2, 49, 49, 49, 51, 199, 51, 49, 49, 49);
        run(TERMS, sentence).line(2, 50, 50, 50, 50, 200, 50, 50, 50, 50).gives("fair 2 2", 9376)
                .hasLine(2, 48, 48, 48, 52, 198, 52, 48, 48, 48);
        // at the ends as well
        run(TERMS, sentence).line(4, 10, 20, 20, 20, 20, 20, 20, 20, 40).gives("fair 4 2", 318)
                .hasLine(4, 12, 18, 20, 20, 19, 18, 18, 22, 38);
    }

    private static void toleranceTaken() {
        run(FAIR, "`tolerance`: 0 to 2").line(0, 9, 9, 9, 9, 9, 9, 9, 9, 9).gives("fair 0 0", 0)
                .gives("half 4 0", 9).gives("fair 0 1", 0).gives("half 4 0", 8)
                .gives("fair 0 2", 0).gives("half 4 0", 6)
                .refuses("fair 0 -1", Calls.ARGUMENT).refuses("fair 0 3", Calls.ARGUMENT);
    }

    private static void from0To200() {
        String sentence = "and 0 to 200, so that the bend is the least";
        run(TERMS, sentence).line(0, 1, 1, 1, 1, 1, 1, 1, 1, 1).gives("fair 0 2", 0)
                .hasLine(0, 0, 0, 0, 0, 0, 0, 0, 0, 0).gives("fair 0 2", 0)
                .hasLine(0, 0, 0, 0, 0, 0, 0, 0, 0, 0);
        // it would bend less with half breadths below 0
        run(TERMS, sentence).line(1, 0, 0, 0, 0, 6, 0, 0, 0, 0).gives("fair 1 1", 132)
                .hasLine(1, 0, 0, 0, 1, 5, 1, 0, 0, 0);
        run(TERMS, sentence).line(1, 0, 0, 0, 0, 8, 0, 0, 0, 0).gives("fair 1 2", 304)
                .hasLine(1, 0, 0, 0, 2, 6, 2, 0, 0, 0);
        // and less with some above 200
        run(TERMS, sentence).line(5, 200, 200, 200, 200, 194, 200, 200, 200, 200).gives("fair 5 1", 132)
                .hasLine(5, 200, 200, 200, 199, 195, 199, 200, 200, 200);
        run(TERMS, sentence).line(5, 200, 200, 200, 200, 192, 200, 200, 200, 200).gives("fair 5 2", 304)
                .hasLine(5, 200, 200, 200, 198, 194, 198, 200, 200, 200);
        run(TERMS, sentence).line(5, 200, 200, 200, 200, 197, 200, 200, 200, 200).gives("fair 5 2", 54)
                .hasLine(5, 198, 198, 198, 198, 198, 198, 198, 198, 198);
    }

    private static void bendIsTheLeast() {
        String sentence = "so that the bend is the least";
        run(TERMS, sentence).line(0, 2, 36, 66, 96, 113, 122, 132, 133, 132).gives("fair 0 2", 157)
                .hasLine(0, 4, 37, 68, 94, 112, 123, 130, 133, 134);
        run(TERMS, sentence).line(5, 199, 198, 200, 196, 198, 197, 200, 197, 198).gives("fair 5 1", 145)
                .hasLine(5, 199, 199, 199, 197, 197, 198, 199, 198, 197);
        // an end that can go but one way, beside a neighbour that has to go the other
        run(TERMS, sentence).line(0, 0, 3, 10, 15, 20, 25, 30, 37, 40).gives("fair 0 2", 40)
                .hasLine(0, 0, 5, 10, 15, 20, 25, 30, 35, 40);
        run(TERMS, sentence).line(1, 3, 0, 0, 0, 0, 0, 0, 0, 3).gives("fair 1 2", 18)
                .hasLine(1, 1, 1, 1, 1, 1, 1, 1, 1, 1);
    }

    private static void lowerFromTheStation0On() {
        String sentence = "of several such lines that whose half breadths, one by one from the station 0 on,"
                + " are lower.";
        run(TERMS, sentence).line(3, 10, 11, 12, 13, 14, 15, 16, 17, 18).gives("fair 3 1", 0)
                .hasLine(3, 9, 10, 11, 12, 13, 14, 15, 16, 17);
        run(TERMS, sentence).line(3, 18, 17, 16, 15, 14, 13, 12, 11, 10).gives("fair 3 2", 0)
                .hasLine(3, 16, 15, 14, 13, 12, 11, 10, 9, 8);
        // 0 stands, so it goes up behind it only as it has to
        run(TERMS, sentence).line(3, 0, 1, 2, 3, 4, 5, 6, 7, 8).gives("fair 3 1", 0)
                .hasLine(3, 0, 1, 2, 3, 4, 5, 6, 7, 8);
        // two of the least bend that are alike up to the station 1, .. 2, 3, 4, 5 and 6: the lower one
        int[][] had = {{4, 0, 0, 2, 2, 6, 4, 2, 2}, {3, 3, 0, 3, 6, 0, 9, 9, 9}, {2, 3, 0, 3, 1, 0, 3, 3, 0},
            {4, 4, 2, 4, 0, 0, 0, 2, 0}, {1, 1, 3, 2, 3, 0, 0, 0, 1}, {0, 2, 0, 0, 1, 0, 3, 3, 2}};
        int[][] due = {{3, 1, 0, 1, 3, 5, 5, 3, 1}, {3, 2, 1, 3, 5, 1, 8, 10, 10}, {3, 2, 1, 2, 1, 1, 2, 2, 1},
            {3, 3, 3, 3, 1, 0, 0, 1, 1}, {2, 2, 2, 2, 2, 1, 0, 0, 0}, {1, 1, 1, 1, 1, 1, 2, 2, 2}};
        int[] less = {66, 237, 100, 84, 41, 49};
        for (int which = 0; which < had.length; which++) {
            run(TERMS, sentence).line(3, had[which]).gives("fair 3 1", less[which]).hasLine(3, due[which]);
        }
        // of those with one kink of 1 the one that has it latest is lower
        run(TERMS, sentence).line(3, 0, 1, 3, 4, 6, 7, 9, 10, 12).gives("fair 3 1", 6)
                .hasLine(3, 0, 1, 2, 3, 5, 7, 9, 11, 13);
        // a lower first one goes before lower ones behind it
        run(TERMS, sentence).line(3, 5, 5, 5, 5, 5, 5, 5, 5, 5).line(4, 5, 6, 7, 8, 9, 8, 7, 6, 5)
                .gives("fair 3 2", 0).hasLine(3, 3, 3, 3, 3, 3, 3, 3, 3, 3);
    }

    private static void fairReturns() {
        run(FAIR, "Returns how much less its bend is then.").line(0, 10, 14, 15, 21, 20, 22)
                .gives("bend 0", 1152).gives("fair 0 2", 619).gives("bend 0", 1152 - 619)
                .gives("bend 1", 0).gives("fair 1 2", 0).gives("bend 1", 0);
        Run each = run(FAIR, "Makes a line fair.");
        for (int waterline = 0; waterline < 6; waterline++) {
            each.line(waterline, 3, 3, 3, 3, 6, 3, 3, 3, 3);
        }
        // the two at the ends of the waterlines alone
        each.gives("fair 0 1", 54 - 6).gives("fair 5 1", 54 - 6).gives("bend 0", 6).gives("bend 5", 6);
        for (int waterline = 1; waterline < 5; waterline++) {
            each.gives("bend " + waterline, 54);
        }
    }

    private static void fairRefused() {
        run(FAIR, "Throws `IndexOutOfBoundsException` as told").equip().refuses("fair -1 1", Calls.INDEX)
                .refuses("fair 6 1", Calls.INDEX).refuses("fair 8 0", Calls.INDEX)
                .refuses("fair " + LOW + " 2", Calls.INDEX).refuses("fair " + HIGH + " 2", Calls.INDEX);
        run(FAIR, "Throws `IllegalArgumentException` if tolerance is out of range").equip()
                .refuses("fair 0 -1", Calls.ARGUMENT).refuses("fair 5 3", Calls.ARGUMENT)
                .refuses("fair 0 " + LOW, Calls.ARGUMENT).refuses("fair 5 " + HIGH, Calls.ARGUMENT);
        run(FAIR, "Throws `IllegalStateException` if it is launched").line(0, 0, 0, 0, 0, 9).makes("launch")
                .refuses("fair 0 2", Calls.STATE).refuses("fair 5 0", Calls.STATE);
        run(FAIR, FIRST_NAMED).refuses("fair 6 3", Calls.INDEX).refuses("fair -1 -1", Calls.INDEX)
                .makes("launch").refuses("fair 0 3", Calls.ARGUMENT).refuses("fair 0 -1", Calls.ARGUMENT)
                .refuses("fair 6 1", Calls.INDEX).refuses("fair -1 3", Calls.INDEX);
        run(FAIR, CHANGES_NOTHING).equip().refuses("fair 6 2", Calls.INDEX).refuses("fair 2 3", Calls.ARGUMENT)
                .makes("launch").refuses("fair 2 2", Calls.STATE).gives("half 1 2", 0);
    }
}
