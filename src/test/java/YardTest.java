/** "What it is", and the terms behind the parts: what one call tells, the others reckon with. */
final class YardTest {
    private static final String WHAT_IT_IS = "What it is";
    private static final String TERMS = "Terms";

    private static final Check CHECK = new Check();

    public static void main(String[] args) {
        engineIsChangedLate();
        breadthIsTakenLate();
        lineIsMadeFairLate();
        launchWaits();
        volumesBothWays();
        afterTheLaunch();
        refusedInARow();
        objectsHaveNothingInCommon();
        CHECK.finish("YardTest");
    }

    private static Run run(String where, String sentence) {
        return new Run(CHECK, where, sentence);
    }

    private static void engineIsChangedLate() {
        String sentence = "an engine that is changed late moves all of it";
        run(WHAT_IT_IS, sentence).box(5).gives("weigh 4 10", 0).gives("weigh 4 2", 1).gives("sill 1", 0)
                .gives("draught", 1).gives("trim", 0).gives("needed", 11).gives("day", 2)
                // 16 * 10 are as much as one waterline bears, 17 * 10 are more
                .gives("change 0 4 14", 104).gives("draught", 1).gives("day", 2)
                .gives("change 0 4 15", 144).gives("draught", 2).gives("trim", 0).gives("needed", 21)
                .gives("day", FairBatten.NONE)
                // 15 at the station 5 and 2 at the station 4 have their middle at 976
                .gives("change 0 5 15", 154).gives("draught", 2).gives("trim", 976 - 800)
                .gives("needed", 20 + 1 + 17).gives("tide 6 38", 7).gives("day", 6)
                .gives("change 0 4 78", 155).gives("draught", 5).gives("needed", 51)
                .gives("change 0 4 79", 784).gives("draught", FairBatten.NONE).gives("trim", 0)
                .gives("needed", FairBatten.NONE).gives("day", FairBatten.NONE).refuses("launch", Calls.STATE)
                .gives("change 0 8 0", 794).gives("draught", 1).gives("needed", 11).gives("day", 2);
        // the ballast stays where it was set, until it is set anew
        run(WHAT_IT_IS, sentence).box(200).gives("weigh 3 10", 0).gives("ballast 99", 56).gives("trim", 0)
                .gives("change 0 5 10", 103).gives("trim", 1066 - 800).gives("ballast 99", 52).gives("trim", 0);
    }

    private static void breadthIsTakenLate() {
        String sentence = "weights that float and trim it";
        run(WHAT_IT_IS, sentence).gives("weigh 4 1", 0).gives("draught", FairBatten.NONE)
                .gives("offset 8 3 10", 0).gives("draught", 3).gives("trim", 800 - 1500)
                .gives("needed", 30 + 70).gives("offset 0 3 10", 0).gives("trim", 0).gives("needed", 30)
                .gives("offset 0 0 10", 0).gives("draught", 1).gives("trim", 800 - 100)
                .gives("offset 0 0 9", 10).gives("draught", 3);
        run(WHAT_IT_IS, "strakes that are nested on planks").gives("planks 160", 5).gives("plankOf right 4", 4)
                .gives("offset 8 4 1", 0).gives("strake 4", 81).gives("plankOf left 4", 0)
                .gives("plankOf right 4", 1).gives("plankOf left 0", 2).gives("planks 160", 6);
    }

    private static void lineIsMadeFairLate() {
        String sentence = "lines made fair by the least bends within a tolerance";
        // strakes, volumes and what floats go by the line as it is then
        run(WHAT_IT_IS, sentence).line(2, 20, 20, 20, 20, 24, 20, 20, 20, 20).gives("strake 2", 88)
                .gives("volume 2", 328).gives("weigh 4 33", 0).gives("draught", 3)
                .gives("fair 2 2", 6 * 16).hasLine(2, 22, 22, 22, 22, 22, 22, 22, 22, 22).gives("bend 2", 0)
                .gives("strake 2", 80).gives("volume 2", 352).gives("volumeAnew 2", 352).gives("draught", 2);
    }

    private static void launchWaits() {
        String sentence = "launches that wait for one that bears the draught";
        run(WHAT_IT_IS, sentence).box(1).gives("weigh 4 4", 0).gives("needed", 20).gives("tide 30 19", 4)
                .gives("tide 31 20", 11).gives("tide 32 99", 18).gives("day", 31).refuses("launch", Calls.STATE)
                .gives("pass 30", 30).refuses("launch", Calls.STATE).gives("day", 31).gives("pass 1", 31)
                .gives("day", 31).gives("launch", 0).gives("day", FairBatten.NONE);
    }

    private static void volumesBothWays() {
        Run each = run(WHAT_IT_IS, "volumes by stations and by waterlines");
        int sum = 0;
        for (int waterline = 0; waterline < 6; waterline++) {
            for (int station = 0; station < 9; station++) {
                each.gives("offset " + station + " " + waterline + " " + breadth(station, waterline), 0);
            }
        }
        for (int waterline = 0; waterline < 6; waterline++) {
            each.gives("volume " + waterline, sum).gives("volumeAnew " + waterline, sum);
            for (int station = 0; station < 8 && waterline < 5; station++) {
                sum += breadth(station, waterline) + breadth(station + 1, waterline)
                        + breadth(station, waterline + 1) + breadth(station + 1, waterline + 1);
            }
        }
    }

    private static int breadth(int station, int waterline) {
        return (station * station * 31 + waterline * 57 + station * waterline * 7) % 201;
    }

    private static void afterTheLaunch() {
        String sentence = "A hull that is launched has no more launches, and no half breadth of it can be told,"
                + " nor a line made fair.";
        // all else goes on
        run(TERMS, sentence).box(5).gives("weigh 4 16", 0).gives("pass 2", 2).gives("launch", 7)
                .gives("weigh 3 16", 1).gives("draught", 2).gives("trim", 700 - 800).gives("ballast 99", 48)
                .gives("trim", 0).gives("draught", 3).gives("change 1 4 0", 163).gives("draught", 2)
                .gives("planks 400", 2).gives("plankOf right 4", 1).gives("strake 4", 80).gives("sill 3", 0)
                .gives("needed", 20 + 3 + 16).gives("tide 2 99", 17).gives("pass 99", 101)
                .gives("day", FairBatten.NONE).gives("bend 0", 0).gives("half 8 5", 5).gives("area 8 5", 50)
                .gives("volume 5", 800).gives("volumeAnew 5", 800)
                .refuses("launch", Calls.STATE).refuses("offset 0 0 5", Calls.STATE).refuses("fair 0 0", Calls.STATE);
    }

    private static void refusedInARow() {
        String sentence = "A call that throws an exception changes nothing.";
        Run all = run(TERMS, sentence).equip().makes("tide 4 0");
        String[] index = {"offset 9 0 0", "half 0 6", "bend 6", "fair 6 0", "area 9 0", "volume 6", "volumeAnew -1",
            "weigh 9 0", "change 3 0 0", "change 0 9 0", "strake 5", "plankOf left 5"};
        for (String call : index) {
            all.refuses(call, Calls.INDEX);
        }
        String[] argument = {"offset 0 0 201", "fair 0 3", "weigh 0 1000", "change 0 0 1000", "ballast 100",
            "planks 99", "tide 10000 0", "tide 0 100", "sill 51", "pass 0"};
        for (String call : argument) {
            all.refuses(call, Calls.ARGUMENT);
        }
        all.refuses("launch", Calls.STATE);
    }

    private static void objectsHaveNothingInCommon() {
        FairBatten x = new FairBatten();
        FairBatten y = new FairBatten();
        x.offset(4, 1, 100);
        x.weigh(4, 10);
        x.ballast(5);
        x.planks(100);
        x.tide(0, 99);
        x.sill(9);
        x.launch();
        x.pass(7);
        CHECK.due("half of another one", y.half(4, 1), 0);
        CHECK.due("its planks", y.plankOf(4, true), 0);
        CHECK.due("its needs", y.needed(), 0);
        CHECK.due("its first weight", y.weigh(0, 0), 0);
        CHECK.due("its ballast at first", y.change(0, 0, 1) + y.ballast(9), 4);
        CHECK.due("its weight is taken off", y.change(0, 0, 0), 10);
        CHECK.due("its tide", y.tide(0, 4), 3);
        CHECK.due("its sill", y.sill(1), 0);
        CHECK.due("its launch", y.launch(), 3);
        CHECK.due("its day", y.pass(1), 1);
        CHECK.due("the day of the first one", x.pass(1), 8);
    }
}
