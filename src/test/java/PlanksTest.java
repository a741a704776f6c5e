/** Promises 14 to 16: strake, planks, plankOf. */
final class PlanksTest {
    private static final Class<?> INDEX = IndexOutOfBoundsException.class;
    private static final Class<?> ARGUMENT = IllegalArgumentException.class;

    public static void main(String[] args) {
        Check check = new Check();
        lengths(check);
        strakeRefusals(check);
        scarfed(check);
        lengthAtFirst(check);
        lengthOfPlanks(check);
        firstFit(check);
        order(check);
        theMostPlanks(check);
        plankRefusals(check);
        check.finish("PlanksTest");
    }

    /** Strakes of the lengths 80 + 2 * each peak, from the strake 0 on. */
    private static FairBatten peaks(int... peaks) {
        FairBatten x = new FairBatten();
        for (int strake = 0; strake < peaks.length; strake++) {
            x.offset(4, strake, peaks[strake]);
        }
        return x;
    }

    private static void planksOf(Check check, FairBatten x, int... pairs) {
        for (int strake = 0; strake < 5; strake++) {
            check.due("first of " + strake, x.plankOf(strake, false), pairs[2 * strake]);
            check.due("second of " + strake, x.plankOf(strake, true), pairs[2 * strake + 1]);
        }
    }

    private static void lengths(Check check) {
        FairBatten x = new FairBatten();
        x.offset(0, 0, 30);
        x.offset(8, 1, 7);
        x.offset(5, 4, 200);
        x.offset(6, 4, 150);
        x.offset(0, 5, 200);
        check.due("strake 0", x.strake(0), 110);
        check.due("strake 1", x.strake(1), 87);
        check.due("strake 2", x.strake(2), 80);
        check.due("strake 3", x.strake(3), 80);
        check.due("strake 4", x.strake(4), 80 + 200 + 50 + 150);
    }

    private static void strakeRefusals(Check check) {
        FairBatten x = peaks(1, 2, 3, 4, 5);
        check.refused(x, "strake -1", INDEX, () -> x.strake(-1));
        check.refused(x, "strake 5", INDEX, () -> x.strake(5));
        check.refused(x, "plankOf -1", INDEX, () -> x.plankOf(-1, false));
        check.refused(x, "plankOf 5", INDEX, () -> x.plankOf(5, true));
        check.refused(x, "plankOf far off", INDEX, () -> x.plankOf(Integer.MIN_VALUE, true));
    }

    private static void scarfed(Check check) {
        FairBatten x = peaks(0, 0, 200);
        check.due("planks of 300", x.planks(300), 6);
        planksOf(check, x, 1, 3, 4, 4, 1, 3, 4, 5, 5, 5);
        check.due("planks of 100", x.planks(100), 18);
        planksOf(check, x, 10, 11, 12, 13, 4, 9, 14, 15, 16, 17);
        // a strake of just a plank, or of just two, leaves nothing
        check.due("planks of 480", x.planks(480), 4);
        planksOf(check, x, 2, 2, 2, 2, 0, 1, 2, 2, 3, 3);
        check.due("planks of 240", x.planks(240), 7);
        planksOf(check, x, 4, 4, 4, 5, 1, 3, 5, 5, 6, 6);
        check.due("planks of 479", x.planks(479), 4);
        // whole planks 0 and 2; the rest of the second is cut behind that of the first, from 1
        planksOf(check, x, 1, 1, 1, 1, 1, 1, 1, 3, 3, 3);
    }

    private static void lengthOfPlanks(Check check) {
        FairBatten x = peaks(200, 200, 200, 200, 200);
        // 480 twice on a plank of 1000, as it is at first
        planksOf(check, x, 0, 0, 1, 1, 2, 2, 3, 3, 4, 4);
        check.due("planks of 4000", x.planks(4000), 2);
        planksOf(check, x, 0, 0, 0, 0, 0, 0, 0, 0, 1, 1);
        check.due("planks of 959", x.planks(959), 10);
        x.offset(4, 0, 0);
        // the length stays told when the hull changes: 80 lie on what is left of the first plank
        planksOf(check, x, 0, 0, 0, 1, 2, 3, 4, 5, 6, 7);
        x.launch();
        check.due("planks when it is launched", x.planks(4000), 1);
    }

    private static void lengthAtFirst(Check check) {
        int[] line = {0, 200, 0, 200, 0, 121, 121, 121, 121};
        FairBatten x = new FairBatten();
        for (int station = 0; station < 9; station++) {
            x.offset(station, 4, line[station]);
        }
        check.due("strake 4", x.strake(4), 1001);
        planksOf(check, x, 1, 1, 1, 1, 1, 1, 1, 1, 1, 1);
        for (int station = 5; station < 9; station++) {
            x.offset(station, 4, 120);
        }
        check.due("strake 4", x.strake(4), 1000);
        planksOf(check, x, 2, 2, 2, 2, 2, 2, 2, 2, 0, 1);
    }

    private static void firstFit(Check check) {
        // 400, 300, 220, 180, 100 on planks of 600: by falling lengths whatever their numbers
        FairBatten x = peaks(10, 160, 50, 110, 70);
        check.due("planks of 600", x.planks(600), 5);
        planksOf(check, x, 3, 4, 0, 1, 0, 1, 2, 2, 3, 3);
        // back to the first plank that has so much left, not to the last
        FairBatten y = peaks(160, 130, 60, 20, 0);
        check.due("planks of 1000", y.planks(1000), 3);
        planksOf(check, y, 0, 0, 1, 1, 0, 1, 1, 2, 2, 2);
    }

    private static void order(Check check) {
        // of the same length the lower one first, both of it together
        FairBatten x = peaks(10, 20, 10, 20, 10);
        check.due("planks of 120", x.planks(120), 10);
        planksOf(check, x, 4, 5, 0, 1, 6, 7, 2, 3, 8, 9);
        FairBatten y = new FairBatten();
        check.due("planks of 240", y.planks(240), 4);
        planksOf(check, y, 0, 0, 0, 1, 1, 1, 2, 2, 2, 3);
    }

    private static void theMostPlanks(Check check) {
        FairBatten x = new FairBatten();
        for (int station = 1; station < 9; station += 2) {
            for (int waterline = 0; waterline < 5; waterline++) {
                x.offset(station, waterline, 200);
            }
        }
        check.due("the longest strake", x.strake(4), 1680);
        check.due("the most planks", x.planks(100), 170);
        check.due("the last of them", x.plankOf(4, true), 169);
        check.due("planks of 1680", x.planks(1680), 10);
        check.due("planks of 1679", x.planks(1679), 11);
        check.due("the rests together", x.plankOf(4, true), 1);
    }

    private static void plankRefusals(Check check) {
        FairBatten x = peaks(200, 150, 100);
        x.planks(450);
        check.refused(x, "length 99", ARGUMENT, () -> x.planks(99));
        check.refused(x, "length 4001", ARGUMENT, () -> x.planks(4001));
        check.refused(x, "length 0", ARGUMENT, () -> x.planks(0));
        check.refused(x, "length far off", ARGUMENT, () -> x.planks(Integer.MIN_VALUE));
    }
}
