/** Each sentence on strakes and planks that names a boundary: terms, and promises 14 to 16. */
final class PlanksEdgesTest {
    private static final String TERMS = "Terms, Strakes, planks";
    private static final String STRAKE = "Promise 14, strake";
    private static final String PLANKS = "Promise 15, planks";
    private static final String PLANK_OF = "Promise 16, plankOf";
    private static final String CHANGES_NOTHING = "A call that throws an exception changes nothing.";
    private static final int LOW = Integer.MIN_VALUE;
    private static final int HIGH = Integer.MAX_VALUE;

    private static final Check CHECK = new Check();

    public static void main(String[] args) {
        strakesBetweenWaterlines();
        lengthOverStations();
        leastAndMostLength();
        strakeTaken();
        strakeRefused();
        plankLengthTaken();
        plankLengthAtFirst();
        planksRefused();
        fallingLengths();
        lowerOneFirst();
        oneBehindTheOther();
        firstPlankWithSoMuchLeft();
        orANewOne();
        scarfedIfLonger();
        wholePlanksAsLongAsLonger();
        restLikewise();
        leastAndMostPlanks();
        plankOfTheEnd();
        plankOfTaken();
        plankOfRefused();
        CHECK.finish("PlanksEdgesTest");
    }

    private static Run run(String where, String sentence) {
        return new Run(CHECK, where, sentence);
    }

    /** A run with strakes of the lengths 80 + 2 * each peak, from the strake 0 on. */
    private static Run peaks(String where, String sentence, int... peaks) {
        Run run = run(where, sentence);
        for (int strake = 0; strake < peaks.length; strake++) {
            run.makes("offset 4 " + strake + " " + peaks[strake]);
        }
        return run;
    }

    private static Run longest(String where, String sentence) {
        Run run = run(where, sentence);
        for (int waterline = 0; waterline < 5; waterline++) {
            run.line(waterline, 0, 200, 0, 200, 0, 200, 0, 200, 0);
        }
        return run;
    }

    private static void strakesBetweenWaterlines() {
        String sentence = "A strake goes between a waterline and the next one above, 0 to 4, on both sides.";
        // the highest line is no strake's lower one
        run(TERMS, sentence).line(5, 0, 200, 0, 200, 0, 200, 0, 200, 0).gives("strake 0", 80)
                .gives("strake 1", 80).gives("strake 2", 80).gives("strake 3", 80).gives("strake 4", 80)
                .refuses("strake 5", Calls.INDEX);
        peaks(TERMS, sentence, 1, 2, 3, 4, 5, 6).gives("strake 0", 82).gives("strake 1", 84)
                .gives("strake 2", 86).gives("strake 3", 88).gives("strake 4", 90);
    }

    private static void lengthOverStations() {
        String sentence = "Its length is the sum, over the stations 0 to 7, of 10 and how far the half breadths"
                + " of the lower line at the station and the next one are apart.";
        for (int station = 0; station < 9; station++) {
            int times = station == 0 || station == 8 ? 1 : 2;
            run(TERMS, sentence).gives("offset " + station + " 4 33", 0).gives("strake 4", 80 + 33 * times)
                    .gives("strake 3", 80).gives("offset " + station + " 0 200", 0)
                    .gives("strake 0", 80 + 200 * times).gives("strake 1", 80);
        }
        // how far apart, whichever is more
        run(TERMS, sentence).line(2, 10, 30, 25, 25, 0).gives("strake 2", 80 + 20 + 5 + 25);
    }

    private static void leastAndMostLength() {
        String sentence = "Its length is the sum, over the stations 0 to 7, of 10 and how far the half breadths"
                + " of the lower line at the station and the next one are apart.";
        run(TERMS, sentence).gives("strake 0", 80).line(4, 7, 7, 7, 7, 7, 7, 7, 7, 7).gives("strake 4", 80);
        longest(TERMS, sentence).gives("strake 0", 1680).gives("strake 4", 1680);
    }

    private static void strakeTaken() {
        peaks(STRAKE, "`strake`: 0 to 4", 5, 0, 0, 0, 9).gives("strake 0", 90).gives("strake 4", 98)
                .refuses("strake -1", Calls.INDEX).refuses("strake 5", Calls.INDEX);
        peaks(STRAKE, "Returns the length of a strake.", 5, 0, 0, 0, 9).makes("launch").gives("strake 0", 90)
                .gives("strake 4", 98);
    }

    private static void strakeRefused() {
        run(STRAKE, "Throws `IndexOutOfBoundsException` as told").equip().refuses("strake -1", Calls.INDEX)
                .refuses("strake 5", Calls.INDEX).refuses("strake 6", Calls.INDEX)
                .refuses("strake " + LOW, Calls.INDEX).refuses("strake " + HIGH, Calls.INDEX);
    }

    private static void plankLengthTaken() {
        run(PLANKS, "`length`: 100 to 4000").gives("planks 100", 10).gives("planks 4000", 1)
                .gives("planks 101", 10).gives("planks 3999", 1)
                .refuses("planks 99", Calls.ARGUMENT).refuses("planks 4001", Calls.ARGUMENT);
    }

    private static void plankLengthAtFirst() {
        String sentence = "are cut from planks of one length, 100 to 4000, 1000 at first";
        // ten of 100 are just as long as one plank
        peaks(TERMS, sentence, 10, 10, 10, 10, 10).hasPlanks(0, 0, 0, 0, 0, 0, 0, 0, 0, 0)
                .gives("offset 0 4 1", 0).hasPlanks(0, 0, 0, 0, 0, 0, 0, 1, 0, 0)
                .gives("planks 1000", 2).gives("planks 1001", 2).gives("planks 1002", 1);
        // a strake of 1000 is cut from one of them, that of 1001 is scarfed
        run(TERMS, sentence).line(0, 0, 200, 0, 200, 0, 120, 120, 120, 120).gives("strake 0", 1000)
                .gives("plankOf left 0", 0).gives("plankOf right 0", 1).gives("offset 8 0 121", 120)
                .gives("strake 0", 1001).gives("plankOf left 0", 1).gives("plankOf right 0", 1);
    }

    private static void planksRefused() {
        String sentence = "Throws `IllegalArgumentException` if length is out of range";
        run(PLANKS, sentence).equip().refuses("planks 99", Calls.ARGUMENT).refuses("planks 4001", Calls.ARGUMENT)
                .refuses("planks 0", Calls.ARGUMENT).refuses("planks -1", Calls.ARGUMENT)
                .refuses("planks " + LOW, Calls.ARGUMENT).refuses("planks " + HIGH, Calls.ARGUMENT);
        peaks(PLANKS, CHANGES_NOTHING, 200, 150, 100, 50).refuses("planks 99", Calls.ARGUMENT)
                .refuses("planks 4001", Calls.ARGUMENT).hasPlanks(0, 0, 1, 1, 2, 2, 1, 2, 2, 2)
                .gives("planks 4000", 1).refuses("planks 99", Calls.ARGUMENT)
                .refuses("planks 4001", Calls.ARGUMENT).hasPlanks(0, 0, 0, 0, 0, 0, 0, 0, 0, 0);
    }

    private static void fallingLengths() {
        String sentence = "by falling lengths";
        // each from a plank of its own, so that the planks tell the order
        peaks(TERMS, sentence, 160, 165, 170, 175, 180).gives("planks 440", 10)
                .hasPlanks(8, 9, 6, 7, 4, 5, 2, 3, 0, 1);
        peaks(TERMS, sentence, 180, 175, 170, 165, 160).gives("planks 440", 10)
                .hasPlanks(0, 1, 2, 3, 4, 5, 6, 7, 8, 9);
        peaks(TERMS, sentence, 170, 160, 180, 165, 175).gives("planks 440", 10)
                .hasPlanks(4, 5, 8, 9, 0, 1, 6, 7, 2, 3);
    }

    private static void lowerOneFirst() {
        String sentence = "of the same the lower one first";
        run(TERMS, sentence).gives("planks 100", 10).hasPlanks(0, 1, 2, 3, 4, 5, 6, 7, 8, 9);
        peaks(TERMS, sentence, 10, 20, 10, 20, 10).gives("planks 120", 10)
                .hasPlanks(4, 5, 0, 1, 6, 7, 2, 3, 8, 9);
        peaks(TERMS, sentence, 20, 10, 20, 10, 20).gives("planks 120", 10)
                .hasPlanks(0, 1, 6, 7, 2, 3, 8, 9, 4, 5);
    }

    private static void oneBehindTheOther() {
        String sentence = "The ten strakes (two alike ones of each, one behind the other)";
        run(TERMS, sentence).gives("planks 240", 4).hasPlanks(0, 0, 0, 1, 1, 1, 2, 2, 2, 3);
        run(TERMS, sentence).gives("planks 800", 1).gives("planks 799", 2)
                .hasPlanks(0, 0, 0, 0, 0, 0, 0, 0, 0, 1);
    }

    private static void firstPlankWithSoMuchLeft() {
        String sentence = "each from the first plank that has so much left";
        // just so much is enough
        run(TERMS, sentence).gives("planks 160", 5).hasPlanks(0, 0, 1, 1, 2, 2, 3, 3, 4, 4);
        run(TERMS, sentence).gives("planks 159", 10).hasPlanks(0, 1, 2, 3, 4, 5, 6, 7, 8, 9);
        // the first of several that have enough, be it the one with the most left or not
        peaks(TERMS, sentence, 110, 65).gives("planks 500", 4).hasPlanks(0, 1, 2, 2, 0, 0, 1, 1, 2, 3);
        peaks(TERMS, sentence, 160, 130, 60, 20, 0).gives("planks 1000", 3)
                .hasPlanks(0, 0, 1, 1, 0, 1, 1, 2, 2, 2);
        peaks(TERMS, sentence, 60, 50).gives("planks 290", 5).hasPlanks(0, 1, 2, 3, 0, 1, 2, 3, 4, 4);
    }

    private static void orANewOne() {
        String sentence = "or a new one";
        peaks(TERMS, sentence, 200, 200, 200, 200, 200).gives("planks 959", 10)
                .hasPlanks(0, 1, 2, 3, 4, 5, 6, 7, 8, 9).gives("planks 960", 5)
                .hasPlanks(0, 0, 1, 1, 2, 2, 3, 3, 4, 4);
    }

    private static void scarfedIfLonger() {
        String sentence = "a strake that is longer than a plank is scarfed";
        peaks(TERMS, sentence, 0, 0, 200).gives("planks 480", 4).hasPlanks(2, 2, 2, 2, 0, 1, 2, 2, 3, 3);
        peaks(TERMS, sentence, 0, 0, 200).gives("planks 479", 4).hasPlanks(1, 1, 1, 1, 1, 1, 1, 3, 3, 3);
        peaks(TERMS, sentence, 0, 0, 200).gives("planks 481", 4).hasPlanks(2, 2, 2, 2, 0, 1, 2, 2, 3, 3);
    }

    private static void wholePlanksAsLongAsLonger() {
        String sentence = "whole planks are taken for it alone, as long as it is longer than one";
        // 480 is one of 240 and a rest of 240, which is no longer than one
        peaks(TERMS, sentence, 0, 0, 200).gives("planks 240", 7).hasPlanks(4, 4, 4, 5, 1, 3, 5, 5, 6, 6);
        // one of 239, another one, and a rest of 2 for both
        peaks(TERMS, sentence, 0, 0, 200).gives("planks 239", 8).hasPlanks(2, 2, 5, 5, 2, 2, 6, 6, 7, 7);
        peaks(TERMS, sentence, 0, 0, 200).gives("planks 160", 10).hasPlanks(6, 6, 7, 7, 2, 5, 8, 8, 9, 9);
        peaks(TERMS, sentence, 0, 0, 200).gives("planks 100", 18)
                .hasPlanks(10, 11, 12, 13, 4, 9, 14, 15, 16, 17);
    }

    private static void restLikewise() {
        String sentence = "the rest is cut likewise.";
        // the rest of the second one is cut from what the first one has left
        peaks(TERMS, sentence, 0, 0, 200).gives("planks 400", 4).hasPlanks(1, 1, 1, 3, 1, 1, 3, 3, 3, 3);
        // or from a new one
        peaks(TERMS, sentence, 0, 0, 200).gives("planks 300", 6).hasPlanks(1, 3, 4, 4, 1, 3, 4, 5, 5, 5);
    }

    private static void leastAndMostPlanks() {
        String sentence = "Returns how many are needed for all ten strakes then.";
        peaks(PLANKS, sentence, 160, 160, 160, 160, 160).gives("planks 4000", 1).gives("planks 3999", 2)
                .gives("planks 400", 10).gives("planks 399", 11);
        longest(PLANKS, sentence).gives("planks 100", 170).gives("plankOf right 4", 169)
                .gives("planks 1680", 10).gives("planks 1679", 11).gives("planks 3360", 5)
                .gives("planks 3359", 10).gives("planks 4000", 5).makes("launch").gives("planks 100", 170);
    }

    private static void plankOfTheEnd() {
        String sentence = "Returns the plank from which the end of a strake is cut, which is all of it,"
                + " if it is not scarfed.";
        longest(PLANK_OF, sentence).gives("planks 1680", 10).hasPlanks(0, 1, 2, 3, 4, 5, 6, 7, 8, 9)
                .gives("planks 1679", 11).hasPlanks(1, 1, 1, 1, 1, 1, 1, 1, 1, 1);
        String order = "Returns the plank, from 0, by the order in which they are taken.";
        peaks(PLANK_OF, order, 0, 1, 2, 3, 4).gives("planks 100", 10).hasPlanks(8, 9, 6, 7, 4, 5, 2, 3, 0, 1)
                .makes("launch").hasPlanks(8, 9, 6, 7, 4, 5, 2, 3, 0, 1);
    }

    private static void plankOfTaken() {
        run(PLANK_OF, "`strake`: 0 to 4").gives("planks 100", 10).gives("plankOf left 0", 0)
                .gives("plankOf right 0", 1).gives("plankOf left 4", 8).gives("plankOf right 4", 9);
        String sentence = "`right`: whether the second one of both, otherwise the first one";
        run(PLANK_OF, sentence).gives("planks 240", 4).gives("plankOf left 1", 0).gives("plankOf right 1", 1)
                .gives("plankOf left 4", 2).gives("plankOf right 4", 3);
        // as the hull is now, and as long as planks were told last
        peaks(PLANK_OF, "Returns the plank from which the end of a strake is cut", 200).gives("planks 480", 4)
                .gives("plankOf right 0", 1).gives("offset 4 0 0", 200).gives("plankOf right 0", 0)
                .gives("plankOf left 4", 1).gives("plankOf right 4", 1);
    }

    private static void plankOfRefused() {
        String sentence = "Throws `IndexOutOfBoundsException` as told";
        run(PLANK_OF, sentence).equip().refuses("plankOf left -1", Calls.INDEX)
                .refuses("plankOf right -1", Calls.INDEX).refuses("plankOf left 5", Calls.INDEX)
                .refuses("plankOf right 5", Calls.INDEX).refuses("plankOf left " + LOW, Calls.INDEX)
                .refuses("plankOf right " + HIGH, Calls.INDEX);
    }
}
