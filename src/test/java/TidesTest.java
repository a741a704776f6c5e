/** Promises 17 to 22: tide, sill, needed, day, launch, pass. */
final class TidesTest {
    private static final Class<?> ARGUMENT = IllegalArgumentException.class;
    private static final Class<?> STATE = IllegalStateException.class;
    private static final int LOW = Integer.MIN_VALUE;
    private static final int HIGH = Integer.MAX_VALUE;

    public static void main(String[] args) {
        Check check = new Check();
        tides(check);
        fortyTides(check);
        tideRefusals(check);
        sills(check);
        needs(check);
        days(check);
        launches(check);
        noLaunches(check);
        passes(check);
        check.finish("TidesTest");
    }

    /** A hull of the volume 32 * half for each waterline, loaded at the station 0. */
    private static FairBatten loaded(int half, int weight) {
        FairBatten x = new FairBatten();
        for (int station = 0; station < 9; station++) {
            for (int waterline = 0; waterline < 6; waterline++) {
                x.offset(station, waterline, half);
            }
        }
        x.weigh(0, weight);
        return x;
    }

    private static void tides(Check check) {
        FairBatten x = new FairBatten();
        check.due("the tide of 0", x.tide(0, 99), 3);
        check.due("told", x.tide(0, 0), 99);
        check.due("told again", x.tide(0, 3), 0);
        check.due("the tide of 1", x.tide(1, 50), 10);
        check.due("the tide of 2", x.tide(2, 50), 17);
        check.due("the tide of 3", x.tide(3, 50), 5);
        check.due("the tide of 9999", x.tide(9999, 1), (7 * 9999 + 3) % 19);
        check.due("told", x.tide(9999, 2), 1);
        x.pass(99);
        check.due("a day that is gone", x.tide(1, 4), 50);
        x.launch();
        check.due("when it is launched", x.tide(1, 5), 4);
    }

    private static void fortyTides(Check check) {
        FairBatten x = new FairBatten();
        x.sill(20);
        for (int day = 0; day < 40; day++) {
            // the one that it would be without being told counts as well
            check.due("tide", x.tide(day * 3, (21 * day + 3) % 19), (21 * day + 3) % 19);
        }
        check.refused(x, "the 41st", STATE, () -> x.tide(1, 99));
        check.refused(x, "the 41st of 100", ARGUMENT, () -> x.tide(1, 100));
        check.refused(x, "the 41st at -1", ARGUMENT, () -> x.tide(-1, 99));
        check.due("a told one", x.tide(117, 19), (21 * 39 + 3) % 19);
        check.due("a told one", x.tide(0, 98), 3);
        check.due("a told one", x.tide(0, 97), 98);
        check.refused(x, "still the 41st", STATE, () -> x.tide(9999, 0));
    }

    private static void tideRefusals(Check check) {
        FairBatten x = new FairBatten();
        check.refused(x, "day -1", ARGUMENT, () -> x.tide(-1, 0));
        check.refused(x, "day 10000", ARGUMENT, () -> x.tide(10000, 0));
        check.refused(x, "height -1", ARGUMENT, () -> x.tide(0, -1));
        check.refused(x, "height 100", ARGUMENT, () -> x.tide(0, 100));
        check.refused(x, "far off", ARGUMENT, () -> x.tide(HIGH, LOW));
        check.due("the tide of 0 as it was", x.tide(0, 3), 3);
    }

    private static void sills(Check check) {
        FairBatten x = new FairBatten();
        check.due("sill", x.sill(50), 0);
        check.due("needed", x.needed(), 50);
        check.due("sill", x.sill(7), 50);
        check.refused(x, "sill -1", ARGUMENT, () -> x.sill(-1));
        check.refused(x, "sill 51", ARGUMENT, () -> x.sill(51));
        check.refused(x, "sill far off", ARGUMENT, () -> x.sill(HIGH));
        check.due("needed", x.needed(), 7);
        x.pass(1);
        x.launch();
        check.due("sill when it is launched", x.sill(0), 7);
    }

    private static void needs(Check check) {
        FairBatten x = loaded(5, 32);
        // the draught 2, the trim -800
        check.due("needed", x.needed(), 20 + 80);
        x.sill(3);
        check.due("needed", x.needed(), 20 + 3 + 80);
        x.change(0, 8, 32);
        check.due("trim", x.trim(), 800);
        check.due("needed", x.needed(), 20 + 3 + 80);
        x.change(0, 4, 31);
        x.weigh(5, 1);
        check.due("trim", x.trim(), 806 - 800);
        check.due("a tenth rounded down", x.needed(), 20 + 3);
        x.change(1, 3, 1);
        check.due("trim", x.trim(), 793 - 800);
        check.due("as much below", x.needed(), 20 + 3);
        x.change(0, 4, 9);
        x.change(1, 3, 3);
        check.due("trim", x.trim(), 750 - 800);
        check.due("needed", x.needed(), 10 + 3 + 5);
        x.tide(0, 99);
        x.launch();
        x.change(0, 4, 90);
        check.due("none", x.needed(), FairBatten.NONE);
    }

    private static void days(Check check) {
        FairBatten x = new FairBatten();
        check.due("today", x.day(), 0);
        x.sill(3);
        check.due("just the tide", x.day(), 0);
        x.sill(4);
        check.due("tomorrow", x.day(), 1);
        x.sill(18);
        check.due("the highest of the others", x.day(), 13);
        check.due("today", x.pass(13), 13);
        check.due("today still", x.day(), 13);
        x.pass(1);
        check.due("the next one", x.day(), 32);
        x.sill(19);
        check.due("none", x.day(), FairBatten.NONE);
        x.tide(13, 99);
        check.due("not one that is gone", x.day(), FairBatten.NONE);
        x.tide(14 + 100, 99);
        check.due("100 days later", x.day(), FairBatten.NONE);
        x.tide(14 + 99, 19);
        check.due("99 days later", x.day(), 113);
        x.tide(50, 18);
        check.due("less than needed", x.day(), 113);
        x.tide(20, 20);
        check.due("the first one", x.day(), 20);
        x.weigh(0, 1);
        check.due("none without a draught", x.day(), FairBatten.NONE);
    }

    private static void launches(Check check) {
        FairBatten x = loaded(10, 15);
        x.change(0, 4, 15);
        x.sill(5);
        check.due("needed", x.needed(), 15);
        check.due("day", x.day(), 2);
        check.refused(x, "a tide of 3", STATE, () -> x.launch());
        x.pass(1);
        check.refused(x, "a tide of 10", STATE, () -> x.launch());
        x.tide(1, 14);
        check.refused(x, "a tide of 14", STATE, () -> x.launch());
        x.tide(1, 15);
        check.due("day", x.day(), 1);
        check.due("launch", x.launch(), 0);
        check.due("day when it is launched", x.day(), FairBatten.NONE);
        check.refused(x, "launched already", STATE, () -> x.launch());
        check.refused(x, "offset", STATE, () -> x.offset(0, 0, 10));
        check.refused(x, "fair", STATE, () -> x.fair(0, 0));
        check.due("needed all the same", x.needed(), 15);
        check.due("days pass all the same", x.pass(99), 100);
        FairBatten y = loaded(200, 0);
        y.pass(2);
        check.due("launch", y.launch(), 17);
    }

    private static void noLaunches(Check check) {
        FairBatten x = loaded(1, 17);
        x.tide(0, 99);
        check.refused(x, "no draught", STATE, () -> x.launch());
        x.change(0, 4, 16);
        check.due("it can be told still", x.offset(8, 5, 2), 1);
        check.due("launch", x.launch(), 99 - 50);
    }

    private static void passes(Check check) {
        FairBatten x = new FairBatten();
        check.refused(x, "pass 0", ARGUMENT, () -> x.pass(0));
        check.refused(x, "pass -1", ARGUMENT, () -> x.pass(-1));
        check.refused(x, "pass 100", ARGUMENT, () -> x.pass(100));
        check.refused(x, "pass far off", ARGUMENT, () -> x.pass(HIGH));
        check.due("pass", x.pass(1), 1);
        for (int times = 1; times <= 90; times++) {
            check.due("pass", x.pass(99), 1 + 99 * times);
        }
        check.refused(x, "above 9000", STATE, () -> x.pass(90));
        check.refused(x, "above 9000 by 100", ARGUMENT, () -> x.pass(100));
        check.due("up to 9000", x.pass(89), 9000);
        check.refused(x, "9001", STATE, () -> x.pass(1));
        check.refused(x, "pass 0 on 9000", ARGUMENT, () -> x.pass(0));
        x.sill(50);
        x.tide(9099, 50);
        check.due("99 days later", x.day(), 9099);
    }
}
