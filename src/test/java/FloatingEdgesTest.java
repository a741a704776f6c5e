/** Each sentence on floating that names a boundary: terms, and promises 6 to 13. */
final class FloatingEdgesTest {
    private static final String TERMS = "Terms, Floating";
    private static final String AREA = "Promise 6, area";
    private static final String VOLUME = "Promise 7, volume";
    private static final String ANEW = "Promise 8, volumeAnew";
    private static final String WEIGH = "Promise 9, weigh";
    private static final String CHANGE = "Promise 10, change";
    private static final String BALLAST = "Promise 11, ballast";
    private static final String DRAUGHT = "Promise 12, draught";
    private static final String TRIM = "Promise 13, trim";
    private static final String FIRST_NAMED = "If several exceptions apply, the one that is named first"
            + " in the throws clause is thrown.";
    private static final String CHANGES_NOTHING = "A call that throws an exception changes nothing.";
    private static final int LOW = Integer.MIN_VALUE;
    private static final int HIGH = Integer.MAX_VALUE;

    private static final Check CHECK = new Check();

    public static void main(String[] args) {
        allWaterlinesBelow();
        areaRefused();
        volumeOverStations();
        volumeRefused();
        volumeAnew();
        volumeAnewRefused();
        sixteenWeights();
        weightsAtStations();
        weighTaken();
        weighRefused();
        changeTaken();
        changeRefused();
        loadTimes10();
        ballastIsInTheLoad();
        momentOfTheLoad();
        momentOfTheVolume();
        lowestWaterline();
        noDraught();
        trimRoundedDown();
        trimUpToTheDraught();
        trimOfNothing();
        trimWithoutDraught();
        ballastHasNoNumber();
        ballastAtFirst();
        ballastOfAllStations();
        ballastUpToTheMost();
        ballastWithDraught();
        ballastWithTheLeastTrim();
        ballastBelow0AsAbove();
        ballastOfSeveral();
        ballastAsItWas();
        ballastTaken();
        ballastRefused();
        CHECK.finish("FloatingEdgesTest");
    }

    private static Run run(String where, String sentence) {
        return new Run(CHECK, where, sentence);
    }

    private static void allWaterlinesBelow() {
        String sentence = "The area of a station up to a waterline is the sum, over all waterlines below it,"
                + " of the half breadth there and that at the next one above, together.";
        for (int station = 0; station < 9; station += 8) {
            Run all = run(TERMS, sentence);
            for (int waterline = 0; waterline < 6; waterline++) {
                all.makes("offset " + station + " " + waterline + " " + (1 << waterline));
                all.makes("offset 4 " + waterline + " 200");
            }
            int[] due = {0, 3, 3 + 6, 3 + 6 + 12, 3 + 6 + 12 + 24, 3 + 6 + 12 + 24 + 48};
            for (int waterline = 0; waterline < 6; waterline++) {
                all.gives("area " + station + " " + waterline, due[waterline]);
                all.gives("area 4 " + waterline, 400 * waterline).gives("area 1 " + waterline, 0);
            }
        }
    }

    private static void areaRefused() {
        run(AREA, "Throws `IndexOutOfBoundsException` as told, of both").equip()
                .refuses("area -1 0", Calls.INDEX).refuses("area 9 0", Calls.INDEX)
                .refuses("area 0 -1", Calls.INDEX).refuses("area 0 6", Calls.INDEX)
                .refuses("area 0 8", Calls.INDEX).refuses("area 9 6", Calls.INDEX)
                .refuses("area " + LOW + " 0", Calls.INDEX).refuses("area 0 " + HIGH, Calls.INDEX)
                .gives("area 0 0", 0).gives("area 8 0", 0).gives("area 0 5", 450).gives("area 8 5", 130);
        run(AREA, "Returns the area of a station up to a waterline.").equip().makes("launch")
                .gives("area 0 1", 5).gives("area 8 2", 40);
    }

    private static void volumeOverStations() {
        String sentence = "The volume up to a waterline is the sum, over the stations 0 to 7, of the area of"
                + " the station and that of the next one, together.";
        for (int station = 0; station < 9; station++) {
            int times = station == 0 || station == 8 ? 1 : 2;
            Run each = run(TERMS, sentence).gives("offset " + station + " 0 100", 0)
                    .gives("offset " + station + " 5 7", 0);
            each.gives("volume 0", 0).gives("volume 1", 100 * times).gives("volume 4", 100 * times);
            each.gives("volume 5", 107 * times);
        }
        run(TERMS, sentence).box(200).gives("volume 0", 0).gives("volume 1", 6400).gives("volume 5", 32000);
    }

    private static void volumeRefused() {
        run(VOLUME, "Throws `IndexOutOfBoundsException` as told").equip().refuses("volume -1", Calls.INDEX)
                .refuses("volume 6", Calls.INDEX).refuses("volume 8", Calls.INDEX)
                .refuses("volume " + LOW, Calls.INDEX).refuses("volume " + HIGH, Calls.INDEX);
        run(VOLUME, "Returns the volume up to a waterline.").gives("volume 0", 0).gives("volume 5", 0)
                .makes("launch").gives("volume 5", 0);
    }

    private static void volumeAnew() {
        String sentence = "Returns the same, slice by slice, found by the areas of waterlines: of each what"
                + " lies between it and the next one above.";
        for (int station = 0; station < 9; station++) {
            int times = station == 0 || station == 8 ? 1 : 2;
            Run each = run(ANEW, sentence).gives("offset " + station + " 0 100", 0)
                    .gives("offset " + station + " 4 3", 0).gives("offset " + station + " 5 7", 0);
            each.gives("volumeAnew 0", 0).gives("volumeAnew 1", 100 * times);
            each.gives("volumeAnew 4", 103 * times).gives("volumeAnew 5", 113 * times);
        }
        run(ANEW, sentence).box(200).gives("volumeAnew 0", 0).gives("volumeAnew 1", 6400)
                .gives("volumeAnew 5", 32000).makes("launch").gives("volumeAnew 4", 25600);
    }

    private static void volumeAnewRefused() {
        run(ANEW, "Throws `IndexOutOfBoundsException` as told").equip().refuses("volumeAnew -1", Calls.INDEX)
                .refuses("volumeAnew 6", Calls.INDEX).refuses("volumeAnew 8", Calls.INDEX)
                .refuses("volumeAnew " + LOW, Calls.INDEX).refuses("volumeAnew " + HIGH, Calls.INDEX);
    }

    private static void sixteenWeights() {
        Run all = run(TERMS, "Weights are numbered from 0, at most 16: each at a station, 0 to 999.");
        for (int number = 0; number < 16; number++) {
            all.refuses("change " + number + " 0 0", Calls.INDEX);
            all.gives("weigh " + number % 9 + " " + (900 + number), number);
        }
        all.refuses("weigh 0 0", Calls.STATE).refuses("change 16 0 0", Calls.INDEX);
        for (int number = 0; number < 16; number++) {
            all.gives("change " + number + " 0 0", 9000 + 10 * number + number % 9);
        }
        // weights of 0 are weights all the same
        all.refuses("weigh 0 0", Calls.STATE);
    }

    private static void weightsAtStations() {
        run(TERMS, "each at a station, 0 to 999.").box(200).gives("weigh 0 999", 0).gives("weigh 8 999", 1)
                .gives("weigh 0 0", 2).gives("weigh 8 0", 3).gives("draught", 4).gives("trim", 0)
                .gives("change 0 8 0", 9990).gives("trim", 800).gives("change 1 0 999", 9998)
                .gives("trim", -800).gives("change 2 0 0", 0).gives("change 3 0 0", 8);
    }

    private static void weighTaken() {
        run(WEIGH, "`weight`: 0 to 999").gives("weigh 4 0", 0).gives("weigh 4 999", 1)
                .gives("weigh 4 1", 2).gives("weigh 4 998", 3)
                .refuses("weigh 4 -1", Calls.ARGUMENT).refuses("weigh 4 1000", Calls.ARGUMENT);
        run(WEIGH, "Returns its number.").gives("weigh 8 5", 0).gives("weigh 8 5", 1).gives("weigh 0 0", 2);
    }

    private static void weighRefused() {
        run(WEIGH, "Throws `IndexOutOfBoundsException` as told").equip().refuses("weigh -1 5", Calls.INDEX)
                .refuses("weigh 9 5", Calls.INDEX).refuses("weigh " + LOW + " 5", Calls.INDEX)
                .refuses("weigh " + HIGH + " 5", Calls.INDEX).gives("weigh 0 5", 3).gives("weigh 8 5", 4);
        run(WEIGH, "Throws `IllegalArgumentException` if weight is out of range").equip()
                .refuses("weigh 0 -1", Calls.ARGUMENT).refuses("weigh 8 1000", Calls.ARGUMENT)
                .refuses("weigh 0 " + LOW, Calls.ARGUMENT).refuses("weigh 8 " + HIGH, Calls.ARGUMENT);
        Run full = run(WEIGH, "Throws `IllegalStateException` if there are 16").equip();
        for (int number = 3; number < 16; number++) {
            full.gives("weigh 5 " + number, number);
        }
        full.refuses("weigh 5 1", Calls.STATE).refuses("weigh 0 0", Calls.STATE)
                .refuses("weigh 8 999", Calls.STATE);
        Run several = run(WEIGH, FIRST_NAMED).refuses("weigh 9 1000", Calls.INDEX)
                .refuses("weigh -1 -1", Calls.INDEX);
        for (int number = 0; number < 16; number++) {
            several.gives("weigh 5 1", number);
        }
        several.refuses("weigh 5 1000", Calls.ARGUMENT).refuses("weigh 5 -1", Calls.ARGUMENT)
                .refuses("weigh 9 1", Calls.INDEX).refuses("weigh -1 1", Calls.INDEX)
                .refuses("weigh 9 1000", Calls.INDEX);
    }

    private static void changeTaken() {
        run(CHANGE, "`which`: its number").gives("weigh 1 100", 0).gives("weigh 2 200", 1)
                .gives("weigh 3 300", 2).gives("change 0 4 400", 1001).gives("change 2 5 500", 3003)
                .gives("change 1 0 0", 2002).gives("change 0 0 0", 4004).gives("change 2 0 0", 5005);
        run(CHANGE, "`weight`: 0 to 999").gives("weigh 4 7", 0).gives("change 0 4 0", 74)
                .gives("change 0 4 999", 4).gives("change 0 4 1", 9994).gives("change 0 4 998", 14)
                .refuses("change 0 4 -1", Calls.ARGUMENT).refuses("change 0 4 1000", Calls.ARGUMENT);
        run(CHANGE, "Returns 10 times its former weight, and its former station, together.")
                .gives("weigh 8 999", 0).gives("change 0 0 999", 9998).gives("change 0 8 0", 9990)
                .gives("change 0 0 0", 8).gives("change 0 0 0", 0);
        run(CHANGE, "Changes a weight, and where it is.").box(200).gives("weigh 0 640", 0)
                .gives("change 0 8 641", 6400).gives("draught", 2).gives("trim", 800).gives("change 0 0 0", 6418)
                .makes("launch").gives("change 0 1 2", 0).gives("trim", 200 - 800);
    }

    private static void changeRefused() {
        String sentence = "Throws `IndexOutOfBoundsException` as told, of both";
        run(CHANGE, sentence).refuses("change 0 0 0", Calls.INDEX).refuses("change -1 0 0", Calls.INDEX)
                .gives("weigh 0 1", 0).gives("change 0 0 2", 10).refuses("change 1 0 0", Calls.INDEX);
        run(CHANGE, sentence).equip().refuses("change -1 0 0", Calls.INDEX).refuses("change 3 0 0", Calls.INDEX)
                .refuses("change 15 0 0", Calls.INDEX).refuses("change 16 0 0", Calls.INDEX)
                .refuses("change " + LOW + " 0 0", Calls.INDEX).refuses("change " + HIGH + " 0 0", Calls.INDEX)
                .refuses("change 0 -1 0", Calls.INDEX).refuses("change 0 9 0", Calls.INDEX)
                .refuses("change 2 " + LOW + " 0", Calls.INDEX).refuses("change 2 " + HIGH + " 0", Calls.INDEX);
        run(CHANGE, "Throws `IllegalArgumentException` if weight is out of range").equip()
                .refuses("change 0 0 -1", Calls.ARGUMENT).refuses("change 2 8 1000", Calls.ARGUMENT)
                .refuses("change 0 0 " + LOW, Calls.ARGUMENT).refuses("change 2 8 " + HIGH, Calls.ARGUMENT);
        run(CHANGE, FIRST_NAMED).equip().refuses("change 3 0 1000", Calls.INDEX)
                .refuses("change -1 0 -1", Calls.INDEX).refuses("change 0 9 1000", Calls.INDEX)
                .refuses("change 0 -1 -1", Calls.INDEX).refuses("change 3 9 1000", Calls.INDEX);
    }

    private static void loadTimes10() {
        String sentence = "The load is all of them, the ballast as well, together, times 10";
        run(TERMS, sentence).box(1).gives("weigh 4 1", 0).gives("weigh 3 1", 1).gives("weigh 5 1", 2)
                .gives("draught", 1).gives("change 2 5 2", 15).gives("draught", 2);
    }

    private static void ballastIsInTheLoad() {
        String sentence = "The load is all of them, the ballast as well, together, times 10";
        run(TERMS, sentence).box(1).gives("weigh 0 3", 0).gives("draught", 1).gives("ballast 1", 18)
                .gives("draught", 2).gives("ballast 0", 0).gives("draught", 1);
        // at most one: it does not come to the former one
        run(TERMS, "Ballast is a weight, more than the others, at most one").box(1).gives("weigh 0 5", 0)
                .gives("ballast 1", 18).gives("draught", 2).gives("ballast 1", 18).gives("draught", 2)
                .gives("trim", 266 - 800);
    }

    private static void momentOfTheLoad() {
        String sentence = "its moment that of each, times 20 times its station, together.";
        for (int station = 0; station < 9; station++) {
            run(TERMS, sentence).box(200).gives("weigh " + station + " 7", 0)
                    .gives("trim", 200 * station - 800).gives("weigh 4 7", 1)
                    .gives("trim", 100 * station + 400 - 800);
        }
        run(TERMS, sentence).box(1).gives("weigh 0 3", 0).gives("ballast 3", 38).gives("trim", 0);
    }

    private static void momentOfTheVolume() {
        String sentence = "The moment of a volume is the sum, over these, of 2 times the number of the station"
                + " and 1, times both areas together.";
        int[] due = {100, 200, 400, 600, 800, 1000, 1200, 1400, 1500};
        for (int station = 0; station < 9; station++) {
            run(TERMS, sentence).gives("offset " + station + " 0 100", 0).gives("weigh 0 1", 0)
                    .gives("trim", -due[station]);
        }
    }

    private static void lowestWaterline() {
        String sentence = "The draught is the lowest waterline up to which the volume is the load or more";
        run(TERMS, sentence).box(200).gives("draught", 0).gives("weigh 4 0", 0).gives("draught", 0)
                .gives("change 0 4 1", 4).gives("draught", 1).gives("change 0 4 640", 14).gives("draught", 1)
                .gives("change 0 4 641", 6404).gives("draught", 2).gives("weigh 4 639", 1).gives("draught", 2)
                .gives("weigh 4 1", 2).gives("draught", 3);
        // waterlines above it that bear as much do not matter, nor do those below that bear less
        run(TERMS, sentence).gives("offset 4 0 5", 0).gives("weigh 4 1", 0).gives("draught", 1);
        run(TERMS, sentence).gives("offset 4 5 5", 0).gives("weigh 4 1", 0).gives("draught", 5);
    }

    private static void noDraught() {
        String sentence = "NONE if there is none.";
        run(TERMS, sentence).gives("weigh 0 1", 0).gives("draught", FairBatten.NONE);
        run(TERMS, sentence).box(1).gives("weigh 4 16", 0).gives("draught", 5).gives("change 0 4 17", 164)
                .gives("draught", FairBatten.NONE).gives("change 0 4 16", 174).gives("draught", 5);
        Run most = run(DRAUGHT, "Returns the draught; NONE if there is none.").box(200);
        most.gives("weigh 0 999", 0).gives("weigh 8 999", 1).gives("weigh 3 999", 2).gives("weigh 4 203", 3);
        most.gives("draught", 5).gives("weigh 4 1", 4).gives("draught", FairBatten.NONE);
        for (int number = 5; number < 16; number++) {
            most.gives("weigh 8 999", number);
        }
        most.gives("draught", FairBatten.NONE);
        run(DRAUGHT, "Returns the draught; NONE if there is none.").makes("launch").gives("draught", 0)
                .gives("weigh 0 1", 0).gives("draught", FairBatten.NONE);
    }

    private static void trimRoundedDown() {
        String sentence = "All numbers are whole; divisions are rounded down, also below 0,"
                + " if nothing else is told.";
        // 4000 and 7000 times 100 by 270; 20000 of 2000 times 100 by 280
        run("Terms", sentence).gives("offset 3 1 60", 0).gives("offset 4 1 80", 0).gives("weigh 2 20", 0)
                .gives("weigh 5 7", 1).gives("trim", 555 - 714).gives("change 0 8 20", 202)
                .gives("trim", 1444 - 714).gives("change 0 0 20", 208).gives("trim", 259 - 714);
        run("Terms", sentence).box(200).gives("weigh 4 2", 0).gives("weigh 3 1", 1).gives("trim", 733 - 800)
                .gives("change 1 5 1", 13).gives("trim", 866 - 800);
    }

    private static void trimUpToTheDraught() {
        String sentence = "less 100 times the moment of the volume up to the draught, divided by that volume";
        run(TERMS, sentence).gives("offset 0 0 10", 0).gives("offset 8 2 10", 0).gives("weigh 4 1", 0)
                .gives("draught", 1).gives("trim", 800 - 100).gives("change 0 4 2", 14).gives("draught", 2)
                .gives("trim", 0).gives("change 0 4 3", 24).gives("draught", 3)
                .gives("trim", 800 - 100 * (10 + 300) / 30);
    }

    private static void trimOfNothing() {
        String sentence = "each 0 if it would be divided by 0";
        run(TERMS, sentence).gives("trim", 0).gives("weigh 8 0", 0).gives("trim", 0);
        run(TERMS, sentence).box(200).gives("trim", 0).gives("weigh 8 0", 0).gives("weigh 0 0", 1)
                .gives("trim", 0).gives("change 0 8 1", 8).gives("trim", 800).gives("change 0 8 0", 18)
                .gives("trim", 0).gives("ballast 99", 0).gives("trim", 0);
    }

    private static void trimWithoutDraught() {
        String sentence = "0 without a draught.";
        run(TERMS, sentence).gives("weigh 8 1", 0).gives("draught", FairBatten.NONE).gives("trim", 0);
        run(TERMS, sentence).box(1).gives("weigh 8 16", 0).gives("trim", 800).gives("change 0 8 17", 168)
                .gives("trim", 0).gives("change 0 0 17", 178).gives("trim", 0);
        run(TRIM, "Returns the trim.").box(1).gives("weigh 8 1", 0).gives("trim", 800).makes("tide 0 99")
                .makes("launch").gives("trim", 800).gives("change 0 0 1", 18).gives("trim", -800);
    }

    private static void ballastHasNoNumber() {
        String sentence = "Ballast is a weight, more than the others, at most one, that has no number";
        run(TERMS, sentence).box(1).gives("weigh 0 3", 0).gives("ballast 1", 18)
                .refuses("change 1 0 0", Calls.INDEX).gives("weigh 0 0", 1).gives("change 0 0 3", 30)
                .gives("change 1 0 0", 0);
        Run full = run(TERMS, sentence).box(200).gives("weigh 1 1", 0).gives("ballast 1", 17);
        for (int number = 1; number < 16; number++) {
            full.gives("weigh 1 1", number);
        }
        full.gives("ballast 12", 128).gives("trim", 0).refuses("change 16 0 0", Calls.INDEX)
                .refuses("weigh 0 0", Calls.STATE);
    }

    private static void ballastAtFirst() {
        String sentence = "that has no number, 0 at the station 4 at first.";
        run(TERMS, sentence).gives("weigh 0 1", 0).gives("ballast 99", 4).gives("ballast 0", 4);
        // at first it weighs nothing
        run(TERMS, sentence).box(1).gives("weigh 0 16", 0).gives("draught", 5).gives("trim", -800);
    }

    private static void ballastOfAllStations() {
        String sentence = "To set it, up to a most, is to choose of all stations and weights from 0 to the most";
        for (int station = 0; station < 9; station++) {
            if (station != 4) {
                run(TERMS, sentence).box(200).gives("weigh " + station + " 1", 0)
                        .gives("ballast 1", 10 + 8 - station).gives("trim", 0);
            }
        }
        run(TERMS, sentence).box(200).gives("weigh 4 1", 0).gives("ballast 1", 0);
    }

    private static void ballastUpToTheMost() {
        String sentence = "To set it, up to a most, is to choose of all stations and weights from 0 to the most";
        run(TERMS, sentence).box(200).gives("weigh 0 99", 0).gives("ballast 99", 998).gives("trim", 0)
                .gives("ballast 98", 988).gives("trim", 795 - 800).gives("ballast 1", 18)
                .gives("trim", 16 - 800).gives("ballast 0", 0).gives("trim", -800);
    }

    private static void ballastWithDraught() {
        String sentence = "that by which there is a draught, and the trim is least";
        // 7 would not be borne, and have no trim
        run(TERMS, sentence).box(1).gives("weigh 0 10", 0).gives("ballast 99", 68).gives("draught", 5)
                .gives("trim", 600 - 800);
        run(TERMS, sentence).box(1).gives("offset 0 0 6", 1).gives("volume 5", 165).gives("weigh 0 10", 0)
                .gives("ballast 99", 68).gives("change 0 0 16", 100).gives("ballast 99", 0)
                .gives("draught", 5);
        // so much ballast as was borne before is borne no more, but none is
        run(TERMS, sentence).box(1).gives("weigh 0 10", 0).gives("ballast 99", 68).gives("change 0 0 16", 100)
                .gives("draught", FairBatten.NONE).gives("ballast 99", 0).gives("draught", 5);
        // the draught is that with the ballast: up to 2 the volume has its middle at the station 4
        run(TERMS, sentence).gives("offset 0 0 10", 0).gives("offset 8 2 10", 0).gives("weigh 0 1", 0)
                .gives("draught", 1).gives("ballast 99", 18).gives("draught", 2).gives("trim", 0);
    }

    private static void ballastWithTheLeastTrim() {
        String sentence = "and the trim is least";
        run(TERMS, sentence).box(200).gives("weigh 0 30", 0).gives("ballast 29", 298).gives("trim", 786 - 800)
                .gives("change 0 8 30", 300).gives("ballast 29", 290).gives("trim", 813 - 800)
                .gives("change 0 3 30", 308).gives("ballast 10", 107).gives("trim", 0);
    }

    private static void ballastBelow0AsAbove() {
        String sentence = "and the trim is least, below 0 taken as much above";
        // the middle is 750: at 7 the load's is 733, at 8 it is 800
        run(TERMS, sentence).gives("offset 3 0 50", 0).gives("offset 4 0 150", 0).gives("weigh 2 2", 0)
                .gives("ballast 1", 17).gives("trim", 733 - 750);
        // the middle is 650: at 5 the load's is 600, at 6 it is 666
        run(TERMS, sentence).gives("offset 3 0 150", 0).gives("offset 4 0 50", 0).gives("weigh 2 2", 0)
                .gives("ballast 1", 16).gives("trim", 666 - 650);
        // the middle is 700: 33 above is less than 34 below
        run(TERMS, sentence).gives("offset 3 0 200", 0).gives("offset 4 0 200", 0).gives("weigh 1 1", 0)
                .gives("weigh 2 1", 1).gives("ballast 1", 18).gives("trim", 733 - 700);
    }

    private static void ballastOfSeveral() {
        String sentence = "of several the least weight, of these the lowest station.";
        // level by 30 at 8, 40 at 7, 60 at 6
        run(TERMS, sentence).box(200).gives("weigh 0 30", 0).gives("ballast 99", 308).gives("trim", 0)
                .gives("ballast 40", 308);
        // 20 above 0 at 8, 20 below it at 7
        run(TERMS, sentence).gives("offset 3 0 200", 0).gives("offset 4 0 200", 0).gives("weigh 1 2", 0)
                .gives("weigh 4 2", 1).gives("ballast 1", 17).gives("trim", 680 - 700);
        // nothing weighs nothing at each station
        run(TERMS, sentence).gives("ballast 99", 0);
        run(TERMS, sentence).box(200).gives("weigh 4 30", 0).gives("ballast 99", 0)
                .gives("change 0 0 30", 304).gives("ballast 0", 0);
    }

    private static void ballastAsItWas() {
        String sentence = "If by none there is a draught, it is as it was.";
        run(TERMS, sentence).box(1).gives("weigh 0 10", 0).gives("ballast 6", 68).gives("change 0 0 17", 100)
                .gives("ballast 99", 68).gives("ballast 0", 68).gives("change 0 0 10", 170)
                .gives("draught", 5).gives("trim", 600 - 800).gives("ballast 0", 0);
    }

    private static void ballastTaken() {
        run(BALLAST, "`most`: 0 to 99").box(200).gives("weigh 0 200", 0).gives("ballast 99", 998)
                .gives("ballast 0", 0).gives("ballast 98", 988).gives("ballast 1", 18)
                .refuses("ballast -1", Calls.ARGUMENT).refuses("ballast 100", Calls.ARGUMENT);
        run(BALLAST, "Returns 10 times its weight, and its station, together.").box(200)
                .gives("weigh 8 99", 0).gives("ballast 99", 990).gives("change 0 0 99", 998)
                .gives("ballast 99", 998).makes("tide 0 99").makes("launch").gives("ballast 0", 0);
    }

    private static void ballastRefused() {
        String sentence = "Throws `IllegalArgumentException` if most is out of range";
        run(BALLAST, sentence).equip().refuses("ballast -1", Calls.ARGUMENT)
                .refuses("ballast 100", Calls.ARGUMENT).refuses("ballast " + LOW, Calls.ARGUMENT)
                .refuses("ballast " + HIGH, Calls.ARGUMENT);
        run(BALLAST, sentence).refuses("ballast -1", Calls.ARGUMENT).refuses("ballast 100", Calls.ARGUMENT)
                .gives("weigh 0 1", 0).refuses("ballast -1", Calls.ARGUMENT)
                .refuses("ballast 100", Calls.ARGUMENT).gives("ballast 99", 4);
        run(BALLAST, CHANGES_NOTHING).box(1).gives("weigh 0 10", 0).gives("ballast 6", 68)
                .refuses("ballast -1", Calls.ARGUMENT).refuses("ballast 100", Calls.ARGUMENT)
                .gives("trim", 600 - 800);
    }
}
