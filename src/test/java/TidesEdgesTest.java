/** Each sentence on tides and launches that names a boundary: terms, and promises 17 to 22. */
final class TidesEdgesTest {
    private static final String TERMS = "Terms, Tides";
    private static final String TIDE = "Promise 17, tide";
    private static final String SILL = "Promise 18, sill";
    private static final String NEEDED = "Promise 19, needed";
    private static final String DAY = "Promise 20, day";
    private static final String LAUNCH = "Promise 21, launch";
    private static final String PASS = "Promise 22, pass";
    private static final String FIRST_NAMED = "If several exceptions apply, the one that is named first"
            + " in the throws clause is thrown.";
    private static final String CHANGES_NOTHING = "A call that throws an exception changes nothing.";
    private static final int LOW = Integer.MIN_VALUE;
    private static final int HIGH = Integer.MAX_VALUE;

    private static final Check CHECK = new Check();

    public static void main(String[] args) {
        todayAtFirst();
        tidesModulo19();
        tidesTold();
        tideTaken();
        tideReturns();
        tideRefused();
        fortyOtherDays();
        tideRefusedOutOfSeveral();
        sillTaken();
        sillRefused();
        neededTogether();
        neededTenthOfTheTrim();
        neededWithoutDraught();
        dayFromTodayOn();
        dayUpTo99DaysLater();
        dayWhoseTideIsNeededOrMore();
        dayNone();
        noMoreLaunches();
        launchToday();
        launchRefused();
        passTaken();
        passRefused();
        upTo9000();
        CHECK.finish("TidesEdgesTest");
    }

    private static Run run(String where, String sentence) {
        return new Run(CHECK, where, sentence);
    }

    private static Run on9000(String where, String sentence) {
        Run run = run(where, sentence);
        for (int times = 1; times <= 90; times++) {
            run.gives("pass 99", 99 * times);
        }
        return run.gives("pass 90", 9000);
    }

    private static void todayAtFirst() {
        run(TERMS, "Today is 0 at first.").gives("day", 0).gives("launch", 3).gives("pass 1", 1);
        run(TERMS, "Today is 0 at first.").gives("tide 0 50", 3).gives("launch", 50);
    }

    private static void tidesModulo19() {
        String sentence = "otherwise 7 times the day and 3, together, modulo 19";
        int[] due = {3, 10, 17, 5, 12, 0, 7, 14, 2, 9, 16, 4, 11, 18, 6, 13, 1, 8, 15, 3};
        Run each = run(TERMS, sentence);
        for (int day = 0; day < due.length; day++) {
            each.gives("tide " + day + " 99", due[day]);
        }
        run(TERMS, sentence).gives("tide 9999 99", 0).gives("tide 9998 99", 12).gives("tide 9000 99", 18);
        // the day's own tide, wherever today is
        run(TERMS, sentence).gives("pass 99", 99).gives("tide 99 1", 12).gives("tide 0 1", 3)
                .gives("tide 100 1", 0);
        // and that of today by the launch
        for (int day = 1; day < due.length; day++) {
            run(TERMS, sentence).gives("pass " + day, day).gives("launch", due[day]);
        }
    }

    private static void tidesTold() {
        String sentence = "Each day has a tide, 0 to 99; told ones";
        run(TERMS, sentence).gives("tide 7 0", 14).gives("tide 8 99", 2).gives("tide 7 99", 0)
                .gives("tide 8 0", 99).gives("tide 7 1", 99).gives("tide 8 1", 0);
        run(TERMS, sentence).gives("tide 0 99", 3).gives("launch", 99);
        run(TERMS, sentence).gives("tide 0 0", 3).gives("launch", 0);
        run(TERMS, sentence).gives("tide 0 0", 3).gives("sill 1", 0).gives("day", 1)
                .refuses("launch", Calls.STATE);
    }

    private static void tideTaken() {
        run(TIDE, "`day`: 0 to 9999").gives("tide 0 1", 3).gives("tide 9999 2", 0).gives("tide 0 3", 1)
                .gives("tide 9999 4", 2).refuses("tide -1 5", Calls.ARGUMENT)
                .refuses("tide 10000 5", Calls.ARGUMENT);
        run(TIDE, "`height`: 0 to 99").gives("tide 2 0", 17).gives("tide 2 99", 0).gives("tide 2 50", 99)
                .refuses("tide 2 -1", Calls.ARGUMENT).refuses("tide 2 100", Calls.ARGUMENT)
                .gives("tide 2 0", 50);
    }

    private static void tideReturns() {
        run(TIDE, "Returns what it was.").gives("tide 3 5", 5).gives("tide 3 6", 5).gives("tide 3 6", 6)
                .gives("tide 4 6", 12).gives("tide 3 0", 6).gives("tide 4 0", 6).gives("tide 3 0", 0);
        // days that are gone, and when it is launched
        run(TIDE, "Returns what it was.").gives("pass 9", 9).gives("tide 8 70", 2).gives("launch", 9)
                .gives("tide 8 71", 70).gives("tide 9 72", 9).gives("tide 9 0", 72);
    }

    private static void tideRefused() {
        run(TIDE, "Throws `IllegalArgumentException` if day or height is out of range").equip()
                .refuses("tide -1 50", Calls.ARGUMENT).refuses("tide 10000 50", Calls.ARGUMENT)
                .refuses("tide 4 -1", Calls.ARGUMENT).refuses("tide 4 100", Calls.ARGUMENT)
                .refuses("tide 0 -1", Calls.ARGUMENT).refuses("tide 9999 100", Calls.ARGUMENT)
                .refuses("tide -1 -1", Calls.ARGUMENT).refuses("tide 10000 100", Calls.ARGUMENT)
                .refuses("tide " + LOW + " 0", Calls.ARGUMENT).refuses("tide 0 " + HIGH, Calls.ARGUMENT)
                .refuses("tide " + HIGH + " 0", Calls.ARGUMENT).refuses("tide 0 " + LOW, Calls.ARGUMENT);
    }

    private static Run fortyTold(String sentence) {
        Run run = run(TIDE, sentence);
        for (int day = 0; day < 40; day++) {
            run.makes("tide " + (100 + 3 * day) + " 20");
        }
        return run;
    }

    private static void fortyOtherDays() {
        String sentence = "Throws `IllegalStateException` if tides of 40 other days are told";
        fortyTold(sentence).refuses("tide 0 3", Calls.STATE).refuses("tide 9999 99", Calls.STATE)
                .refuses("tide 101 0", Calls.STATE)
                // a day of the 40 has but 39 others
                .gives("tide 100 21", 20).gives("tide 217 22", 20).gives("tide 160 99", 20)
                .gives("tide 217 0", 22).refuses("tide 218 0", Calls.STATE).refuses("tide 99 0", Calls.STATE);
        // a day told again is but one, and one that is gone, or told as it was anyway, counts
        Run gone = run(TIDE, sentence).gives("pass 90", 90);
        for (int day = 0; day < 39; day++) {
            gone.gives("tide " + day + " " + (7 * day + 3) % 19, (7 * day + 3) % 19).makes("tide " + day + " 9");
        }
        gone.gives("tide 9999 1", 0).refuses("tide 39 1", Calls.STATE).gives("tide 9999 0", 1)
                .gives("tide 38 1", 9).gives("launch", 6).refuses("tide 39 1", Calls.STATE);
    }

    private static void tideRefusedOutOfSeveral() {
        fortyTold(FIRST_NAMED).refuses("tide 0 100", Calls.ARGUMENT).refuses("tide 0 -1", Calls.ARGUMENT)
                .refuses("tide -1 0", Calls.ARGUMENT).refuses("tide 10000 0", Calls.ARGUMENT)
                .refuses("tide 0 0", Calls.STATE);
        fortyTold(CHANGES_NOTHING).refuses("tide 5000 77", Calls.STATE).refuses("tide 100 100", Calls.ARGUMENT)
                .refuses("tide 100 -1", Calls.ARGUMENT).gives("tide 100 1", 20);
    }

    private static void sillTaken() {
        run(SILL, "`height`: 0 to 50").gives("sill 0", 0).gives("sill 50", 0).gives("needed", 50)
                .gives("sill 49", 50).gives("sill 1", 49).gives("needed", 1)
                .refuses("sill -1", Calls.ARGUMENT).refuses("sill 51", Calls.ARGUMENT).gives("sill 0", 1);
        run(SILL, "Returns what it was.").gives("sill 3", 0).gives("sill 3", 3).makes("pass 1")
                .gives("launch", 7).gives("sill 4", 3).gives("sill 0", 4);
        run(TERMS, "the sill, 0 to 50, 0 at first").gives("needed", 0).gives("sill 50", 0).gives("needed", 50)
                .gives("sill 0", 50).gives("needed", 0);
    }

    private static void sillRefused() {
        run(SILL, "Throws `IllegalArgumentException` if height is out of range").equip()
                .refuses("sill -1", Calls.ARGUMENT).refuses("sill 51", Calls.ARGUMENT)
                .refuses("sill " + LOW, Calls.ARGUMENT).refuses("sill " + HIGH, Calls.ARGUMENT)
                .gives("sill 0", 11);
    }

    private static void neededTogether() {
        String sentence = "What is needed is 10 times the draught, the sill, 0 to 50, 0 at first, and a tenth"
                + " of how much the trim is above, or below, 0, together.";
        run(TERMS, sentence).box(1).gives("needed", 0).gives("weigh 4 3", 0).gives("needed", 10)
                .gives("change 0 4 4", 34).gives("needed", 20).gives("change 0 4 16", 44).gives("needed", 50)
                .gives("sill 50", 0).gives("needed", 100).gives("change 0 8 16", 164).gives("needed", 180)
                .gives("change 0 0 16", 168).gives("needed", 180).gives("sill 0", 50).gives("needed", 130);
        run(NEEDED, "Returns what is needed").box(1).gives("weigh 4 3", 0).gives("pass 1", 1)
                .gives("launch", 0).gives("needed", 10).gives("sill 5", 0).gives("change 0 8 3", 34)
                .gives("needed", 10 + 5 + 80);
    }

    private static void neededTenthOfTheTrim() {
        String sentence = "a tenth of how much the trim is above, or below, 0";
        tenth(sentence, 21, 5, 9, 0);
        tenth(sentence, 19, 5, 10, 1);
        tenth(sentence, 10, 5, 18, 1);
        tenth(sentence, 9, 5, 20, 2);
        tenth(sentence, 22, 3, -9, 0);
        tenth(sentence, 19, 3, -10, 1);
        tenth(sentence, 10, 3, -19, 1);
        tenth(sentence, 9, 3, -20, 2);
        tenth(sentence, 0, 8, 800, 80);
        tenth(sentence, 0, 0, -800, 80);
    }

    /** So many at the station 4, 1 at another. */
    private static void tenth(String sentence, int weight, int station, int trim, int tenth) {
        run(TERMS, sentence).box(200).gives("weigh 4 " + weight, 0).gives("weigh " + station + " 1", 1)
                .gives("trim", trim).gives("needed", 10 + tenth);
    }

    private static void neededWithoutDraught() {
        String sentence = "Returns what is needed; NONE without a draught.";
        run(NEEDED, sentence).gives("needed", 0).gives("weigh 0 1", 0).gives("needed", FairBatten.NONE)
                .gives("sill 50", 0).gives("needed", FairBatten.NONE);
        run(NEEDED, sentence).box(1).gives("weigh 4 16", 0).gives("needed", 50).gives("change 0 4 17", 164)
                .gives("needed", FairBatten.NONE).gives("change 0 4 0", 174).gives("needed", 0)
                .gives("launch", 3).gives("change 0 4 17", 4).gives("needed", FairBatten.NONE);
    }

    private static void dayFromTodayOn() {
        String sentence = "The day of a launch is the first one, from today on";
        run(TERMS, sentence).gives("sill 18", 0).gives("day", 13).gives("pass 13", 13).gives("day", 13)
                .gives("pass 1", 14).gives("day", 32).gives("tide 13 99", 18).gives("day", 32)
                .gives("tide 14 18", 6).gives("day", 14).gives("tide 20 99", 10).gives("day", 14);
        run(TERMS, sentence).gives("day", 0).gives("tide 0 0", 3).gives("day", 0).gives("pass 1", 1)
                .gives("day", 1);
    }

    private static void dayUpTo99DaysLater() {
        String sentence = "from today on, up to 99 days later";
        run(TERMS, sentence).gives("sill 50", 0).gives("tide 100 50", 0).gives("day", FairBatten.NONE)
                .gives("tide 99 50", 12).gives("day", 99).gives("tide 98 50", 5).gives("day", 98);
        run(TERMS, sentence).gives("sill 50", 0).gives("tide 100 50", 0).gives("day", FairBatten.NONE)
                .gives("pass 1", 1).gives("day", 100).gives("pass 99", 100).gives("day", 100)
                .gives("launch", 0);
        on9000(TERMS, sentence).gives("day", 9000).gives("sill 50", 0).gives("tide 9100 99", 15)
                .gives("day", FairBatten.NONE).gives("tide 9099 50", 8).gives("day", 9099)
                .gives("tide 9000 50", 18).gives("day", 9000);
    }

    private static void dayWhoseTideIsNeededOrMore() {
        String sentence = "whose tide is what is needed or more";
        run(TERMS, sentence).gives("sill 3", 0).gives("day", 0).gives("sill 4", 3).gives("day", 1)
                .gives("sill 10", 4).gives("day", 1).gives("sill 11", 10).gives("day", 2)
                .gives("sill 18", 11).gives("day", 13).gives("sill 19", 18).gives("day", FairBatten.NONE);
        // the engine is moved: what is needed is as things are
        run(DAY, "Returns the day of a launch, as things are").box(200).gives("weigh 4 1", 0).gives("day", 1)
                .gives("change 0 3 1", 14).gives("day", FairBatten.NONE).gives("tide 50 30", 11)
                .gives("day", 50).gives("ballast 1", 15).gives("day", 1);
    }

    private static void dayNone() {
        String sentence = "NONE without one, or if it is launched.";
        run(DAY, sentence).gives("sill 19", 0).gives("day", FairBatten.NONE);
        run(DAY, sentence).gives("weigh 0 1", 0).gives("day", FairBatten.NONE).gives("change 0 0 0", 10)
                .gives("day", 0);
        run(DAY, sentence).gives("day", 0).gives("launch", 3).gives("day", FairBatten.NONE)
                .gives("pass 5", 5).gives("day", FairBatten.NONE).gives("tide 5 99", 0)
                .gives("day", FairBatten.NONE);
    }

    private static void noMoreLaunches() {
        String sentence = "A hull that is launched has no more launches, and no half breadth of it can be told,"
                + " nor a line made fair.";
        run(TERMS, sentence).box(1).gives("offset 4 0 6", 1).gives("launch", 3).refuses("launch", Calls.STATE)
                .refuses("offset 4 0 1", Calls.STATE).refuses("fair 0 1", Calls.STATE).gives("half 4 0", 6)
                .gives("day", FairBatten.NONE).gives("pass 99", 99).refuses("launch", Calls.STATE)
                .refuses("offset 0 5 0", Calls.STATE).refuses("fair 5 0", Calls.STATE);
        // a launch that was refused is none
        run(TERMS, sentence).gives("sill 50", 0).refuses("launch", Calls.STATE).gives("offset 4 0 6", 0)
                .gives("fair 0 1", 132).gives("sill 3", 50).gives("launch", 0);
    }

    private static void launchToday() {
        String sentence = "Launches the hull today.";
        run(LAUNCH, sentence).gives("sill 18", 0).gives("day", 13).refuses("launch", Calls.STATE)
                .gives("pass 13", 13).gives("launch", 0);
        on9000(LAUNCH, sentence).gives("sill 18", 0).gives("launch", 0).gives("day", FairBatten.NONE);
        String more = "Returns how much more the tide is than what is needed.";
        run(LAUNCH, more).gives("sill 3", 0).gives("launch", 0);
        run(LAUNCH, more).gives("sill 2", 0).gives("launch", 1);
        run(LAUNCH, more).gives("tide 0 99", 3).gives("launch", 99);
        run(LAUNCH, more).box(1).gives("weigh 0 3", 0).gives("weigh 8 3", 1).gives("sill 9", 0)
                .gives("tide 0 99", 3).gives("launch", 99 - 20 - 9);
        run(LAUNCH, more).box(200).gives("weigh 4 9", 0).gives("weigh 3 1", 1).gives("pass 13", 13)
                .gives("launch", 18 - 10 - 2);
    }

    private static void launchRefused() {
        String launched = "Throws `IllegalStateException` if it is launched";
        run(LAUNCH, launched).gives("launch", 3).refuses("launch", Calls.STATE).gives("pass 2", 2)
                .gives("tide 2 99", 17).refuses("launch", Calls.STATE);
        String draught = "Throws `IllegalStateException` if it [..] has no draught";
        run(LAUNCH, draught).gives("tide 0 99", 3).gives("weigh 4 1", 0).refuses("launch", Calls.STATE)
                .gives("change 0 4 0", 14).gives("launch", 99);
        run(LAUNCH, draught).box(1).gives("tide 0 99", 3).gives("weigh 4 17", 0).refuses("launch", Calls.STATE)
                .gives("change 0 4 16", 174).gives("launch", 99 - 50);
        String less = "Throws `IllegalStateException` if [..] the tide is less than needed";
        run(LAUNCH, less).gives("sill 4", 0).refuses("launch", Calls.STATE).gives("sill 3", 4)
                .gives("launch", 0);
        run(LAUNCH, less).gives("sill 1", 0).gives("tide 0 0", 3).refuses("launch", Calls.STATE)
                .gives("tide 0 1", 0).gives("launch", 0);
        run(LAUNCH, CHANGES_NOTHING).equip().gives("tide 4 0", 60).refuses("launch", Calls.STATE)
                .gives("weigh 8 999", 3).gives("weigh 8 999", 4).gives("weigh 8 999", 5).gives("weigh 8 999", 6)
                .gives("tide 4 99", 0).refuses("launch", Calls.STATE);
    }

    private static void passTaken() {
        run(PASS, "`days`: 1 to 99").gives("pass 1", 1).gives("pass 99", 100).gives("pass 98", 198)
                .refuses("pass 0", Calls.ARGUMENT).refuses("pass 100", Calls.ARGUMENT).gives("pass 1", 199);
        run(PASS, "Returns today.").gives("pass 2", 2).gives("day", 2).gives("launch", 17)
                .gives("pass 3", 5).gives("pass 4", 9);
    }

    private static void passRefused() {
        run(PASS, "Throws `IllegalArgumentException` if days is out of range").equip()
                .refuses("pass 0", Calls.ARGUMENT).refuses("pass 100", Calls.ARGUMENT)
                .refuses("pass -1", Calls.ARGUMENT).refuses("pass " + LOW, Calls.ARGUMENT)
                .refuses("pass " + HIGH, Calls.ARGUMENT).gives("pass 1", 5);
    }

    private static void upTo9000() {
        String sentence = "Throws `IllegalStateException` if it would be above 9000";
        on9000(PASS, sentence).refuses("pass 1", Calls.STATE).refuses("pass 99", Calls.STATE)
                .gives("day", 9000).gives("launch", 18);
        Run below = run(PASS, sentence);
        for (int times = 1; times <= 90; times++) {
            below.gives("pass 99", 99 * times);
        }
        below.refuses("pass 91", Calls.STATE).refuses("pass 99", Calls.STATE).gives("pass 89", 8999)
                .refuses("pass 2", Calls.STATE).gives("pass 1", 9000).refuses("pass 1", Calls.STATE);
        on9000(PASS, FIRST_NAMED).refuses("pass 100", Calls.ARGUMENT).refuses("pass 0", Calls.ARGUMENT)
                .refuses("pass " + HIGH, Calls.ARGUMENT).refuses("pass " + LOW, Calls.ARGUMENT)
                .refuses("pass 99", Calls.STATE);
    }
}
