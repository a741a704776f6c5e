/** Promises 6 to 13: area, volume, volumeAnew, weigh, change, ballast, draught, trim. */
final class FloatingTest {
    private static final Class<?> INDEX = IndexOutOfBoundsException.class;
    private static final Class<?> ARGUMENT = IllegalArgumentException.class;
    private static final Class<?> STATE = IllegalStateException.class;
    private static final int LOW = Integer.MIN_VALUE;
    private static final int HIGH = Integer.MAX_VALUE;

    public static void main(String[] args) {
        Check check = new Check();
        areas(check);
        volumes(check);
        hullRefusals(check);
        weights(check);
        weighRefusals(check);
        changes(check);
        changeRefusals(check);
        draughts(check);
        trims(check);
        ballastChoice(check);
        ballastWithoutDraught(check);
        ballastRefusals(check);
        check.finish("FloatingTest");
    }

    /** All half breadths of a hull alike. */
    private static FairBatten box(int half) {
        FairBatten x = new FairBatten();
        for (int station = 0; station < 9; station++) {
            for (int waterline = 0; waterline < 6; waterline++) {
                x.offset(station, waterline, half);
            }
        }
        return x;
    }

    private static void areas(Check check) {
        FairBatten x = new FairBatten();
        x.offset(3, 0, 5);
        x.offset(3, 1, 7);
        x.offset(3, 2, 11);
        x.offset(3, 5, 100);
        check.due("area up to 0", x.area(3, 0), 0);
        check.due("area up to 1", x.area(3, 1), 12);
        check.due("area up to 2", x.area(3, 2), 30);
        check.due("area up to 3", x.area(3, 3), 41);
        check.due("area up to 4", x.area(3, 4), 41);
        check.due("area up to 5", x.area(3, 5), 141);
        check.due("area elsewhere", x.area(4, 5), 0);
        check.due("area of the last station", box(200).area(8, 5), 2000);
    }

    private static void volumes(Check check) {
        FairBatten x = new FairBatten();
        x.offset(0, 0, 3);
        x.offset(4, 1, 10);
        x.offset(8, 2, 7);
        long[] due = {0, 3 + 20, 3 + 40 + 7, 3 + 40 + 14, 3 + 40 + 14, 3 + 40 + 14};
        FairBatten box = box(200);
        for (int waterline = 0; waterline < 6; waterline++) {
            check.due("volume", x.volume(waterline), due[waterline]);
            check.due("volumeAnew", x.volumeAnew(waterline), due[waterline]);
            check.due("volume of a box", box.volume(waterline), 6400L * waterline);
            check.due("volumeAnew of a box", box.volumeAnew(waterline), 6400L * waterline);
        }
    }

    private static void hullRefusals(Check check) {
        FairBatten x = box(1);
        check.refused(x, "area station -1", INDEX, () -> x.area(-1, 0));
        check.refused(x, "area station 9", INDEX, () -> x.area(9, 0));
        check.refused(x, "area waterline -1", INDEX, () -> x.area(0, -1));
        check.refused(x, "area waterline 6", INDEX, () -> x.area(0, 6));
        check.refused(x, "volume -1", INDEX, () -> x.volume(-1));
        check.refused(x, "volume 6", INDEX, () -> x.volume(6));
        check.refused(x, "volumeAnew -1", INDEX, () -> x.volumeAnew(-1));
        check.refused(x, "volumeAnew 6", INDEX, () -> x.volumeAnew(6));
        check.refused(x, "volumeAnew far off", INDEX, () -> x.volumeAnew(HIGH));
    }

    private static void weights(Check check) {
        FairBatten x = box(200);
        for (int number = 0; number < 16; number++) {
            check.due("number", x.weigh(number % 9, number), number);
        }
        check.refused(x, "17th weight", STATE, () -> x.weigh(0, 1));
        check.refused(x, "17th weight of 0", STATE, () -> x.weigh(8, 0));
        check.refused(x, "17th weight of 1000", ARGUMENT, () -> x.weigh(0, 1000));
        check.refused(x, "17th weight at 9", INDEX, () -> x.weigh(9, 1000));
        check.due("the last one", x.change(15, 0, 0), 156);
        check.due("the ballast is not of the 16", x.ballast(0), 0);
    }

    private static void weighRefusals(Check check) {
        FairBatten x = box(200);
        check.due("the most", x.weigh(8, 999), 0);
        check.refused(x, "station -1", INDEX, () -> x.weigh(-1, 0));
        check.refused(x, "station 9", INDEX, () -> x.weigh(9, 0));
        check.refused(x, "weight -1", ARGUMENT, () -> x.weigh(0, -1));
        check.refused(x, "weight 1000", ARGUMENT, () -> x.weigh(0, 1000));
        check.refused(x, "both", INDEX, () -> x.weigh(LOW, HIGH));
        check.due("the next number", x.weigh(0, 0), 1);
    }

    private static void changes(Check check) {
        FairBatten x = box(200);
        x.weigh(3, 700);
        x.weigh(8, 999);
        check.due("draught", x.draught(), 3);
        check.due("change", x.change(0, 5, 0), 7003);
        check.due("draught", x.draught(), 2);
        check.due("trim", x.trim(), 1600 - 800);
        check.due("change", x.change(1, 0, 999), 9998);
        check.due("trim", x.trim(), 0 - 800);
        check.due("change", x.change(0, 0, 0), 5);
        check.due("change", x.change(1, 0, 0), 9990);
        check.due("draught", x.draught(), 0);
        x.launch();
        check.due("change when it is launched", x.change(1, 2, 3), 0);
        check.due("draught", x.draught(), 1);
        check.due("weigh when it is launched", x.weigh(2, 3), 2);
    }

    private static void changeRefusals(Check check) {
        FairBatten x = box(200);
        check.refused(x, "no weight yet", INDEX, () -> x.change(0, 0, 0));
        x.weigh(1, 100);
        x.weigh(2, 200);
        check.refused(x, "weight number -1", INDEX, () -> x.change(-1, 0, 0));
        check.refused(x, "weight number 2", INDEX, () -> x.change(2, 0, 0));
        check.refused(x, "weight number 16", INDEX, () -> x.change(16, 0, 0));
        check.refused(x, "station -1", INDEX, () -> x.change(0, -1, 0));
        check.refused(x, "station 9", INDEX, () -> x.change(0, 9, 0));
        check.refused(x, "weight -1", ARGUMENT, () -> x.change(0, 0, -1));
        check.refused(x, "weight 1000", ARGUMENT, () -> x.change(0, 0, 1000));
        check.refused(x, "no number, weight 1000", INDEX, () -> x.change(2, 0, 1000));
        check.refused(x, "station 9, weight -1", INDEX, () -> x.change(0, 9, -1));
        check.due("as it was", x.change(0, 0, 0), 1001);
    }

    private static void draughts(Check check) {
        FairBatten x = box(200);
        x.weigh(4, 640);
        check.due("the volume is the load", x.draught(), 1);
        x.change(0, 4, 641);
        check.due("the load is more", x.draught(), 2);
        x.weigh(0, 999);
        x.weigh(0, 999);
        x.weigh(0, 561);
        check.due("up to the last waterline", x.draught(), 5);
        x.change(3, 0, 562);
        check.due("none", x.draught(), FairBatten.NONE);
        check.due("no trim", x.trim(), 0);
        x.change(3, 0, 0);
        check.due("again", x.draught(), 5);
        // a hull whose lowest waterlines have no breadth
        FairBatten y = new FairBatten();
        check.due("without a load", y.draught(), 0);
        y.offset(4, 3, 5);
        y.weigh(4, 1);
        check.due("up to the breadth", y.draught(), 3);
        y.change(0, 4, 2);
        check.due("above it", y.draught(), 4);
    }

    private static void trims(Check check) {
        FairBatten x = new FairBatten();
        x.offset(3, 1, 60);
        x.offset(4, 1, 80);
        x.weigh(2, 20);
        // the load's moment 800 by 200; both areas 60, 140, 80 at the numbers 5, 7, 9
        check.due("trim", x.trim(), 400 - 100 * (60 * 5 + 140 * 7 + 80 * 9) / 280);
        x.weigh(5, 7);
        // each is rounded down by itself: 150000 by 270, and 200000 by 280
        check.due("draught", x.draught(), 1);
        check.due("trim", x.trim(), 555 - 714);
        check.due("change", x.change(0, 8, 20), 202);
        check.due("trim", x.trim(), 1444 - 714);
        x.change(0, 0, 0);
        x.change(1, 8, 0);
        check.due("trim without a load", x.trim(), 0);
        // the weight at the station 0 has no moment
        x.change(0, 0, 1);
        check.due("trim below 0", x.trim(), -714);
        FairBatten y = new FairBatten();
        y.offset(0, 0, 10);
        y.weigh(0, 1);
        check.due("trim of the least volume", y.trim(), -100);
    }

    private static void ballastChoice(Check check) {
        FairBatten x = new FairBatten();
        check.due("no weight: 0 at the lowest station", x.ballast(99), 0);
        FairBatten y = box(200);
        y.weigh(0, 30);
        // level by a weight w at the station s if w * (s - 4) is 120: 30 at 8, 40 at 7, 60 at 6
        check.due("the ballast", y.ballast(30), 308);
        check.due("trim", y.trim(), 0);
        check.due("the least weight that levels it", y.ballast(99), 308);
        check.due("less is not enough", y.ballast(29), 298);
        check.due("trim", y.trim(), 786 - 800);
        check.due("none", y.ballast(0), 0);
        check.due("trim", y.trim(), -800);
        y.change(0, 4, 30);
        check.due("level without ballast", y.ballast(99), 0);
        y.change(0, 8, 30);
        check.due("at the other end", y.ballast(99), 300);
        // the former ballast is no part of the choice
        check.due("the same again", y.ballast(99), 300);
        check.due("draught", y.draught(), 1);
        y.tide(0, 99);
        y.launch();
        check.due("set when it is launched", y.ballast(5), 50);
    }

    private static void ballastWithoutDraught(Check check) {
        FairBatten x = box(1);
        x.weigh(0, 10);
        // a volume of 160 at most bears 16
        check.due("as much as it bears", x.ballast(99), 68);
        check.due("draught", x.draught(), 5);
        check.due("trim", x.trim(), 600 - 800);
        x.change(0, 0, 17);
        check.due("none bears it", x.draught(), FairBatten.NONE);
        check.due("as it was", x.ballast(99), 68);
        check.due("as it was", x.ballast(0), 68);
        x.change(0, 0, 10);
        check.due("it still floats", x.trim(), 600 - 800);
        FairBatten z = box(200);
        z.weigh(3, 999);
        z.weigh(3, 999);
        z.weigh(3, 999);
        z.weigh(3, 153);
        // 50 are borne at most, but 49 and 50 do not level it by a whole number more than 48
        check.due("up to the last volume", z.ballast(99), 488);
        // the first ballast, 0 at the station 4
        FairBatten y = new FairBatten();
        y.weigh(0, 1);
        check.due("as it was", y.ballast(99), 4);
    }

    private static void ballastRefusals(Check check) {
        FairBatten x = box(200);
        x.weigh(0, 30);
        x.ballast(20);
        check.refused(x, "most -1", ARGUMENT, () -> x.ballast(-1));
        check.refused(x, "most 100", ARGUMENT, () -> x.ballast(100));
        check.refused(x, "most far off", ARGUMENT, () -> x.ballast(LOW));
        x.weigh(0, 999);
        x.weigh(0, 999);
        x.weigh(0, 999);
        x.weigh(0, 999);
        check.due("the ballast stands", x.ballast(1), 208);
    }
}
