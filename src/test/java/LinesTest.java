/** Promises 1 to 5: a new object, offset, half, bend, fair. */
final class LinesTest {
    private static final Class<?> INDEX = IndexOutOfBoundsException.class;
    private static final Class<?> ARGUMENT = IllegalArgumentException.class;
    private static final Class<?> STATE = IllegalStateException.class;
    private static final int LOW = Integer.MIN_VALUE;
    private static final int HIGH = Integer.MAX_VALUE;

    public static void main(String[] args) {
        Check check = new Check();
        newObject(check);
        offsetAndHalf(check);
        offsetRefusals(check);
        halfRefusals(check);
        bends(check);
        fairLines(check);
        fairLinesOfOld(check);
        fairAtTheEdges(check);
        fairRefusals(check);
        check.finish("LinesTest");
    }

    private static FairBatten launched() {
        FairBatten x = new FairBatten();
        x.offset(4, 0, 7);
        x.launch();
        return x;
    }

    private static void newObject(Check check) {
        FairBatten x = new FairBatten();
        for (int station = 0; station < 9; station++) {
            for (int waterline = 0; waterline < 6; waterline++) {
                check.due("half of a new hull", x.half(station, waterline), 0);
            }
        }
        check.due("draught", x.draught(), 0);
        check.due("trim", x.trim(), 0);
        check.due("strake", x.strake(0), 80);
        // ten strakes of 80 stand on one plank of 1000
        for (int strake = 0; strake < 5; strake++) {
            check.due("plankOf", x.plankOf(strake, true), 0);
        }
        check.due("the sill", x.sill(0), 0);
        check.due("needed", x.needed(), 0);
        check.due("day", x.day(), 0);
        check.due("the first weight", x.weigh(0, 0), 0);
        check.due("the ballast", x.ballast(0), 0);
        check.due("today", x.pass(1), 1);
        check.due("not launched", x.launch(), 10);
    }

    private static void offsetAndHalf(Check check) {
        FairBatten x = new FairBatten();
        check.due("offset", x.offset(8, 5, 200), 0);
        check.due("offset", x.offset(8, 5, 3), 200);
        check.due("offset", x.offset(0, 0, 17), 0);
        check.due("offset", x.offset(0, 0, 0), 17);
        check.due("offset", x.offset(2, 3, 5), 0);
        check.due("half", x.half(8, 5), 3);
        check.due("half", x.half(0, 0), 0);
        check.due("half", x.half(2, 3), 5);
        check.due("half", x.half(3, 2), 0);
    }

    private static void offsetRefusals(Check check) {
        FairBatten x = new FairBatten();
        x.offset(4, 0, 7);
        check.refused(x, "station -1", INDEX, () -> x.offset(-1, 0, 1));
        check.refused(x, "station 9", INDEX, () -> x.offset(9, 0, 1));
        check.refused(x, "waterline -1", INDEX, () -> x.offset(4, -1, 1));
        check.refused(x, "waterline 6", INDEX, () -> x.offset(4, 6, 1));
        check.refused(x, "half -1", ARGUMENT, () -> x.offset(4, 0, -1));
        check.refused(x, "half 201", ARGUMENT, () -> x.offset(4, 0, 201));
        check.refused(x, "no station, and half 201", INDEX, () -> x.offset(9, 0, 201));
        check.refused(x, "no waterline, and half -1", INDEX, () -> x.offset(4, 6, -1));
        FairBatten y = launched();
        check.refused(y, "launched", STATE, () -> y.offset(4, 0, 1));
        check.refused(y, "launched, half 201", ARGUMENT, () -> y.offset(4, 0, 201));
        check.refused(y, "launched, no station", INDEX, () -> y.offset(LOW, 0, HIGH));
        check.refused(y, "launched, no waterline", INDEX, () -> y.offset(0, HIGH, LOW));
    }

    private static void halfRefusals(Check check) {
        FairBatten x = launched();
        check.due("half of a launched hull", x.half(4, 0), 7);
        check.refused(x, "station -1", INDEX, () -> x.half(-1, 0));
        check.refused(x, "station 9", INDEX, () -> x.half(9, 0));
        check.refused(x, "waterline -1", INDEX, () -> x.half(0, -1));
        check.refused(x, "waterline 6", INDEX, () -> x.half(0, 6));
        check.refused(x, "far off", INDEX, () -> x.half(LOW, HIGH));
    }

    private static void bends(Check check) {
        FairBatten x = new FairBatten();
        x.offset(0, 5, 200);
        check.due("bend at the end", x.bend(5), 40000);
        x.offset(1, 5, 10);
        // 200 - 20, then 10
        check.due("bend", x.bend(5), 180 * 180 + 10 * 10);
        for (int station = 0; station < 9; station++) {
            x.offset(station, 1, station % 2 * 200);
        }
        check.due("the most bend", x.bend(1), 7 * 400 * 400);
        for (int station = 0; station < 9; station++) {
            x.offset(station, 2, 200 - 25 * station);
        }
        check.due("no bend", x.bend(2), 0);
        check.due("of another line", x.bend(0), 0);
        check.refused(x, "waterline -1", INDEX, () -> x.bend(-1));
        check.refused(x, "waterline 6", INDEX, () -> x.bend(6));
    }

    private static FairBatten withLine(int waterline, int... halves) {
        FairBatten x = new FairBatten();
        for (int station = 0; station < halves.length; station++) {
            x.offset(station, waterline, halves[station]);
        }
        return x;
    }

    private static void line(Check check, FairBatten x, int waterline, int... halves) {
        for (int station = 0; station < halves.length; station++) {
            check.due("half at " + station, x.half(station, waterline), halves[station]);
        }
    }

    private static void fairLines(Check check) {
        FairBatten x = withLine(0, 10, 14, 15, 21, 20, 22);
        check.due("fair by 2", x.fair(0, 2), 619);
        check.due("half", x.half(0, 0), 11);
        check.due("half", x.half(3, 0), 20);
        check.due("bend", x.bend(0), 533);
        FairBatten y = withLine(5, 0, 1, 3, 4, 6, 7, 9, 10, 12);
        check.due("fair by 0", y.fair(5, 0), 0);
        line(check, y, 5, 0, 1, 3, 4, 6, 7, 9, 10, 12);
        // no straight line is near enough; of those with one kink of 1 this one has it latest
        check.due("fair by 1", y.fair(5, 1), 6);
        check.due("bend", y.bend(5), 1);
        line(check, y, 5, 0, 1, 2, 3, 5, 7, 9, 11, 13);
    }

    /** Lines whose fairest ones were found by trying all of them. */
    private static void fairLinesOfOld(Check check) {
        int[][] old = {{2, 2, 4, 4, 1, 0, 4, 1, 2}, {1, 1, 3, 2, 0, 3, 0, 3, 0},
            {2, 36, 66, 96, 113, 122, 132, 133, 132}, {0, 39, 65, 90, 108, 123, 128, 132, 130},
            {1, 37, 68, 91, 114, 122, 130, 136, 126}, {199, 198, 200, 196, 198, 197, 200, 197, 198},
            {197, 199, 196, 199, 198, 200, 199, 200, 197}, {0, 8, 20, 30, 40, 50, 60, 70, 80}};
        int[][] due = {{3, 3, 3, 3, 2, 1, 3, 2, 1}, {1, 1, 1, 1, 1, 1, 1, 1, 1},
            {4, 37, 68, 94, 112, 123, 130, 133, 134}, {1, 38, 66, 90, 109, 122, 129, 131, 131},
            {3, 36, 66, 92, 112, 124, 132, 134, 128}, {199, 199, 199, 197, 197, 198, 199, 198, 197},
            {198, 198, 198, 198, 198, 198, 198, 198, 198}, {0, 10, 20, 30, 40, 50, 60, 70, 80}};
        int[] tolerance = {1, 2, 2, 1, 2, 1, 2, 2};
        int[] less = {92, 147, 157, 142, 333, 145, 115, 20};
        FairBatten x = new FairBatten();
        for (int which = 0; which < old.length; which++) {
            int waterline = which % 6;
            for (int station = 0; station < 9; station++) {
                x.offset(station, waterline, old[which][station]);
            }
            check.due("fair", x.fair(waterline, tolerance[which]), less[which]);
            line(check, x, waterline, due[which]);
        }
    }

    private static void fairAtTheEdges(Check check) {
        FairBatten x = withLine(3, 10, 10, 10, 10, 10, 10, 10, 10, 10);
        check.due("fair though it is straight", x.fair(3, 2), 0);
        line(check, x, 3, 8, 8, 8, 8, 8, 8, 8, 8, 8);
        check.due("fair again", x.fair(3, 1), 0);
        line(check, x, 3, 7, 7, 7, 7, 7, 7, 7, 7, 7);
        check.due("other lines stand", x.half(0, 2) + x.half(0, 4), 0);
        FairBatten y = withLine(0, 1, 1, 1, 1, 1, 1, 1, 1, 1);
        check.due("not below 0", y.fair(0, 2), 0);
        line(check, y, 0, 0, 0, 0, 0, 0, 0, 0, 0, 0);
        FairBatten z = withLine(0, 200, 200, 200, 200, 197, 200, 200, 200, 200);
        check.due("not above 200", z.fair(0, 2), 54);
        line(check, z, 0, 198, 198, 198, 198, 198, 198, 198, 198, 198);
    }

    private static void fairRefusals(Check check) {
        FairBatten x = withLine(2, 0, 90, 0, 0, 90);
        check.refused(x, "waterline -1", INDEX, () -> x.fair(-1, 1));
        check.refused(x, "waterline 6", INDEX, () -> x.fair(6, 1));
        check.refused(x, "tolerance -1", ARGUMENT, () -> x.fair(2, -1));
        check.refused(x, "tolerance 3", ARGUMENT, () -> x.fair(2, 3));
        check.refused(x, "both", INDEX, () -> x.fair(HIGH, LOW));
        x.launch();
        check.refused(x, "launched", STATE, () -> x.fair(2, 2));
        check.refused(x, "launched, by 0", STATE, () -> x.fair(2, 0));
        check.refused(x, "launched, tolerance 3", ARGUMENT, () -> x.fair(2, 3));
        check.refused(x, "launched, waterline 6", INDEX, () -> x.fair(6, 3));
    }
}
