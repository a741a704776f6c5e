/** A boat yard: a hull, its fair lines, what floats it, the planks of its strakes, and its launch. */
public final class FairBatten {
    public static final int NONE = -1;

    private static final int STATIONS = 9;
    private static final int WATERLINES = 6;
    private static final int STRAKES = 5;
    private static final int MOST_HALF = 200;
    private static final int MOST_TOLERANCE = 2;
    private static final int MOST_WEIGHT = 999;
    private static final int MOST_BALLAST = 99;
    private static final int LEAST_PLANK = 100;
    private static final int MOST_PLANK = 4000;
    private static final int MOST_TOLD_DAY = 9999;
    private static final int MOST_TIDE = 99;
    private static final int MOST_SILL = 50;
    private static final int MOST_AHEAD = 99;
    private static final int MOST_PASS = 99;
    private static final int LAST_TODAY = 9000;

    private final Hull hull;
    private final Batten batten;
    private final Cargo cargo;
    private final Buoyancy buoyancy;
    private final Nest nest;
    private final Almanac almanac;
    private int sillHeight;
    private int today;
    private boolean launched;

    public FairBatten() {
        hull = new Hull();
        batten = new Batten();
        cargo = new Cargo();
        buoyancy = new Buoyancy();
        nest = new Nest();
        almanac = new Almanac();
        sillHeight = 0;
        today = 0;
        launched = false;
    }

    // ---- lines

    public int offset(int station, int waterline, int half)
            throws IndexOutOfBoundsException, IllegalArgumentException, IllegalStateException {
        refuseNoStation(station);
        refuseNoWaterline(waterline);
        refuseOutside(half, 0, MOST_HALF);
        refuseLaunched();
        int former = hull.lines[waterline][station];
        hull.lines[waterline][station] = half;
        return former;
    }

    public int half(int station, int waterline) throws IndexOutOfBoundsException {
        refuseNoStation(station);
        refuseNoWaterline(waterline);
        return hull.lines[waterline][station];
    }

    public int bend(int waterline) throws IndexOutOfBoundsException {
        refuseNoWaterline(waterline);
        return bendOfLine(hull.lines[waterline]);
    }

    public int fair(int waterline, int tolerance)
            throws IndexOutOfBoundsException, IllegalArgumentException, IllegalStateException {
        refuseNoWaterline(waterline);
        refuseOutside(tolerance, 0, MOST_TOLERANCE);
        refuseLaunched();
        int[] line = hull.lines[waterline];
        int former = bendOfLine(line);
        batten.straighten(line, tolerance);
        return former - bendOfLine(line);
    }

    // ---- floating

    public int area(int station, int waterline) throws IndexOutOfBoundsException {
        refuseNoStation(station);
        refuseNoWaterline(waterline);
        return hull.areaUpTo(station, waterline);
    }

    public int volume(int waterline) throws IndexOutOfBoundsException {
        refuseNoWaterline(waterline);
        return hull.volumeUpTo(waterline);
    }

    public int volumeAnew(int waterline) throws IndexOutOfBoundsException {
        refuseNoWaterline(waterline);
        return hull.volumeBySlices(waterline);
    }

    public int weigh(int station, int weight)
            throws IndexOutOfBoundsException, IllegalArgumentException, IllegalStateException {
        refuseNoStation(station);
        refuseOutside(weight, 0, MOST_WEIGHT);
        if (cargo.isFull()) {
            throw new IllegalStateException("there are 16 weights");
        }
        return cargo.add(station, weight);
    }

    public int change(int which, int station, int weight)
            throws IndexOutOfBoundsException, IllegalArgumentException {
        refuseNoWeight(which);
        refuseNoStation(station);
        refuseOutside(weight, 0, MOST_WEIGHT);
        return cargo.replace(which, station, weight);
    }

    public int ballast(int most) throws IllegalArgumentException {
        refuseOutside(most, 0, MOST_BALLAST);
        buoyancy.measure(hull);
        buoyancy.setBallast(cargo, most);
        return 10 * cargo.ballastWeight + cargo.ballastStation;
    }

    public int draught() {
        buoyancy.measure(hull);
        return buoyancy.draughtUnder(cargo.wholeLoad());
    }

    public int trim() {
        buoyancy.measure(hull);
        return buoyancy.trimUnder(cargo.wholeLoad(), cargo.wholeMoment());
    }

    // ---- strakes, planks

    public int strake(int strake) throws IndexOutOfBoundsException {
        refuseNoStrake(strake);
        return hull.strakeLength(strake);
    }

    public int planks(int length) throws IllegalArgumentException {
        refuseOutside(length, LEAST_PLANK, MOST_PLANK);
        nest.plankLength = length;
        nest.cutAll(hull);
        return nest.taken;
    }

    public int plankOf(int strake, boolean right) throws IndexOutOfBoundsException {
        refuseNoStrake(strake);
        nest.cutAll(hull);
        return right ? nest.secondEnds[strake] : nest.firstEnds[strake];
    }

    // ---- tides

    public int tide(int day, int height) throws IllegalArgumentException, IllegalStateException {
        refuseOutside(day, 0, MOST_TOLD_DAY);
        refuseOutside(height, 0, MOST_TIDE);
        if (!almanac.hasRoomFor(day)) {
            throw new IllegalStateException("tides of 40 other days are told");
        }
        int former = almanac.heightOn(day);
        almanac.tell(day, height);
        return former;
    }

    public int sill(int height) throws IllegalArgumentException {
        refuseOutside(height, 0, MOST_SILL);
        int former = sillHeight;
        sillHeight = height;
        return former;
    }

    public int needed() {
        int depth = draught();
        if (depth == NONE) {
            return NONE;
        }
        return 10 * depth + sillHeight + Math.abs(trim()) / 10;
    }

    public int day() {
        int least = needed();
        if (launched || least == NONE) {
            return NONE;
        }
        for (int ahead = 0; ahead <= MOST_AHEAD; ahead++) {
            if (almanac.heightOn(today + ahead) >= least) {
                return today + ahead;
            }
        }
        return NONE;
    }

    public int launch() throws IllegalStateException {
        refuseLaunched();
        int least = needed();
        if (least == NONE) {
            throw new IllegalStateException("there is no draught");
        }
        int spare = almanac.heightOn(today) - least;
        if (spare < 0) {
            throw new IllegalStateException("the tide is less than needed");
        }
        launched = true;
        return spare;
    }

    public int pass(int days) throws IllegalArgumentException, IllegalStateException {
        refuseOutside(days, 1, MOST_PASS);
        if (today + days > LAST_TODAY) {
            throw new IllegalStateException("today would be above 9000");
        }
        today += days;
        return today;
    }

    // ---- refusals

    private static void refuseNoStation(int station) {
        if (station < 0 || station >= STATIONS) {
            throw new IndexOutOfBoundsException("there is no such station");
        }
    }

    private static void refuseNoWaterline(int waterline) {
        if (waterline < 0 || waterline >= WATERLINES) {
            throw new IndexOutOfBoundsException("there is no such waterline");
        }
    }

    private static void refuseNoStrake(int strake) {
        if (strake < 0 || strake >= STRAKES) {
            throw new IndexOutOfBoundsException("there is no such strake");
        }
    }

    private void refuseNoWeight(int which) {
        if (which < 0 || which >= cargo.count) {
            throw new IndexOutOfBoundsException("there is no such weight");
        }
    }

    private static void refuseOutside(int value, int least, int most) {
        if (value < least || value > most) {
            throw new IllegalArgumentException("out of range");
        }
    }

    private void refuseLaunched() {
        if (launched) {
            throw new IllegalStateException("the hull is launched");
        }
    }

    // ---- what several parts reckon with

    private static int squareOfBend(int before, int at, int after) {
        int off = before + after - 2 * at;
        return off * off;
    }

    private static int bendOfLine(int[] line) {
        int sum = 0;
        for (int station = 1; station < STATIONS - 1; station++) {
            sum += squareOfBend(line[station - 1], line[station], line[station + 1]);
        }
        return sum;
    }

    /** The half breadths, a row for each waterline. */
    private static final class Hull {
        private final int[][] lines = new int[WATERLINES][STATIONS];

        private int areaUpTo(int station, int waterline) {
            int sum = 0;
            for (int below = 0; below < waterline; below++) {
                sum += lines[below][station] + lines[below + 1][station];
            }
            return sum;
        }

        private int volumeUpTo(int waterline) {
            int sum = 0;
            for (int station = 0; station < STATIONS - 1; station++) {
                sum += areaUpTo(station, waterline) + areaUpTo(station + 1, waterline);
            }
            return sum;
        }

        private int momentUpTo(int waterline) {
            int sum = 0;
            for (int station = 0; station < STATIONS - 1; station++) {
                int both = areaUpTo(station, waterline) + areaUpTo(station + 1, waterline);
                sum += (2 * station + 1) * both;
            }
            return sum;
        }

        private int volumeBySlices(int waterline) {
            int sum = 0;
            for (int below = 0; below < waterline; below++) {
                sum += waterlineArea(below) + waterlineArea(below + 1);
            }
            return sum;
        }

        private int waterlineArea(int waterline) {
            int[] line = lines[waterline];
            int sum = 0;
            for (int station = 0; station < STATIONS - 1; station++) {
                sum += line[station] + line[station + 1];
            }
            return sum;
        }

        private int strakeLength(int lower) {
            int[] line = lines[lower];
            int sum = 0;
            for (int station = 0; station < STATIONS - 1; station++) {
                sum += 10 + Math.abs(line[station] - line[station + 1]);
            }
            return sum;
        }
    }

    /**
     * Finds the fairest line. A choice is how far a half breadth lies above the lowest one that the
     * tolerance leaves; the bends behind two neighbours hang on the choices at these two alone.
     */
    private static final class Batten {
        private static final int MOST_CHOICES = 2 * MOST_TOLERANCE + 1;
        // more than any line bends: at seven stations 400 squared at most
        private static final int NO_LINE = 2000000;

        // rest[s][c * MOST_CHOICES + d]: the least bend at the stations behind s, when c is chosen at
        // s and d at the next one; behind the last but one there is no bend, so its row stays 0
        private final int[][] rest = new int[STATIONS - 1][MOST_CHOICES * MOST_CHOICES];
        private final int[] lowest = new int[STATIONS];
        private final int[] choices = new int[STATIONS];

        private void straighten(int[] line, int tolerance) {
            for (int station = 0; station < STATIONS; station++) {
                lowest[station] = Math.max(0, line[station] - tolerance);
                choices[station] = Math.min(MOST_HALF, line[station] + tolerance) - lowest[station] + 1;
            }
            // from the back, so that the line can be drawn from the front with the lowest choices
            for (int station = STATIONS - 3; station >= 0; station--) {
                reckonRest(station);
            }
            draw(line);
        }

        private void reckonRest(int station) {
            for (int here = 0; here < choices[station]; here++) {
                for (int next = 0; next < choices[station + 1]; next++) {
                    int least = NO_LINE;
                    for (int third = 0; third < choices[station + 2]; third++) {
                        least = Math.min(least, bendWith(station, here, next, third));
                    }
                    rest[station][here * MOST_CHOICES + next] = least;
                }
            }
        }

        private int bendWith(int station, int here, int next, int third) {
            int square = squareOfBend(lowest[station] + here, lowest[station + 1] + next,
                    lowest[station + 2] + third);
            return square + rest[station + 1][next * MOST_CHOICES + third];
        }

        private void draw(int[] line) {
            int here = 0;
            int next = 0;
            int least = NO_LINE;
            for (int first = 0; first < choices[0]; first++) {
                for (int second = 0; second < choices[1]; second++) {
                    if (rest[0][first * MOST_CHOICES + second] < least) {
                        least = rest[0][first * MOST_CHOICES + second];
                        here = first;
                        next = second;
                    }
                }
            }
            line[0] = lowest[0] + here;
            line[1] = lowest[1] + next;
            for (int station = 0; station < STATIONS - 2; station++) {
                int third = lowestThird(station, here, next);
                line[station + 2] = lowest[station + 2] + third;
                here = next;
                next = third;
            }
        }

        private int lowestThird(int station, int here, int next) {
            int best = 0;
            int least = NO_LINE;
            for (int third = 0; third < choices[station + 2]; third++) {
                int bending = bendWith(station, here, next, third);
                if (bending < least) {
                    least = bending;
                    best = third;
                }
            }
            return best;
        }
    }

    /** The numbered weights, and the ballast. */
    private static final class Cargo {
        private static final int MOST_WEIGHTS = 16;

        private final int[] weights = new int[MOST_WEIGHTS];
        private final int[] stations = new int[MOST_WEIGHTS];
        private int count = 0;
        private int ballastWeight = 0;
        private int ballastStation = 4;

        private boolean isFull() {
            return count >= MOST_WEIGHTS;
        }

        private int add(int station, int weight) {
            weights[count] = weight;
            stations[count] = station;
            count++;
            return count - 1;
        }

        private int replace(int which, int station, int weight) {
            int former = 10 * weights[which] + stations[which];
            weights[which] = weight;
            stations[which] = station;
            return former;
        }

        private int loadWithoutBallast() {
            int sum = 0;
            for (int which = 0; which < count; which++) {
                sum += weights[which];
            }
            return 10 * sum;
        }

        private int momentWithoutBallast() {
            int sum = 0;
            for (int which = 0; which < count; which++) {
                sum += weights[which] * 20 * stations[which];
            }
            return sum;
        }

        private int wholeLoad() {
            return loadWithoutBallast() + 10 * ballastWeight;
        }

        private int wholeMoment() {
            return momentWithoutBallast() + ballastWeight * 20 * ballastStation;
        }
    }

    /** How a hull floats: its volumes and their moments up to each waterline, as last measured. */
    private static final class Buoyancy {
        private final int[] volumes = new int[WATERLINES];
        private final int[] moments = new int[WATERLINES];

        private void measure(Hull hull) {
            for (int waterline = 0; waterline < WATERLINES; waterline++) {
                volumes[waterline] = hull.volumeUpTo(waterline);
                moments[waterline] = hull.momentUpTo(waterline);
            }
        }

        private int draughtUnder(int load) {
            for (int waterline = 0; waterline < WATERLINES; waterline++) {
                if (volumes[waterline] >= load) {
                    return waterline;
                }
            }
            return NONE;
        }

        private int trimUnder(int load, int moment) {
            int waterline = draughtUnder(load);
            if (waterline == NONE) {
                return 0;
            }
            return hundredfold(moment, load) - hundredfold(moments[waterline], volumes[waterline]);
        }

        private static int hundredfold(int moment, int by) {
            return by == 0 ? 0 : Math.floorDiv(100 * moment, by);
        }

        private void setBallast(Cargo cargo, int most) {
            int load = cargo.loadWithoutBallast();
            int moment = cargo.momentWithoutBallast();
            boolean found = false;
            int least = 0;
            for (int weight = 0; weight <= most; weight++) {
                if (draughtUnder(load + 10 * weight) == NONE) {
                    // no heavier one is borne either
                    return;
                }
                for (int station = 0; station < STATIONS; station++) {
                    int lean = Math.abs(trimUnder(load + 10 * weight, moment + weight * 20 * station));
                    if (!found || lean < least) {
                        found = true;
                        least = lean;
                        cargo.ballastWeight = weight;
                        cargo.ballastStation = station;
                    }
                }
            }
        }
    }

    /** The planks, and which of them the ends of the ten strakes are cut from. */
    private static final class Nest {
        // ten strakes of 1680 at most, each from 17 planks of 100 at most
        private static final int MOST_PLANKS = 170;

        private final int[] left = new int[MOST_PLANKS];
        private final int[] lengths = new int[STRAKES];
        private final int[] order = new int[STRAKES];
        private final int[] firstEnds = new int[STRAKES];
        private final int[] secondEnds = new int[STRAKES];
        private int plankLength = 1000;
        private int taken = 0;

        private void cutAll(Hull hull) {
            sortByLength(hull);
            taken = 0;
            for (int turn = 0; turn < STRAKES; turn++) {
                int strake = order[turn];
                firstEnds[strake] = cut(lengths[strake]);
                secondEnds[strake] = cut(lengths[strake]);
            }
        }

        private void sortByLength(Hull hull) {
            for (int strake = 0; strake < STRAKES; strake++) {
                lengths[strake] = hull.strakeLength(strake);
                int place = strake;
                while (place > 0 && lengths[order[place - 1]] < lengths[strake]) {
                    order[place] = order[place - 1];
                    place--;
                }
                order[place] = strake;
            }
        }

        private int cut(int length) {
            int rest = length;
            while (rest > plankLength && taken < MOST_PLANKS) {
                left[taken] = 0;
                taken++;
                rest -= plankLength;
            }
            for (int plank = 0; plank < taken; plank++) {
                if (left[plank] >= rest) {
                    left[plank] -= rest;
                    return plank;
                }
            }
            if (taken >= MOST_PLANKS) {
                return NONE;
            }
            left[taken] = plankLength - rest;
            taken++;
            return taken - 1;
        }
    }

    /** The tides, the told ones and the others. */
    private static final class Almanac {
        private static final int MOST_TOLD = 40;

        private final int[] toldDays = new int[MOST_TOLD];
        private final int[] toldHeights = new int[MOST_TOLD];
        private int count = 0;

        private int placeOf(int day) {
            for (int place = 0; place < count; place++) {
                if (toldDays[place] == day) {
                    return place;
                }
            }
            return NONE;
        }

        private boolean hasRoomFor(int day) {
            return count < MOST_TOLD || placeOf(day) != NONE;
        }

        private int heightOn(int day) {
            int place = placeOf(day);
            return place == NONE ? Math.floorMod(7 * day + 3, 19) : toldHeights[place];
        }

        private void tell(int day, int height) {
            int place = placeOf(day);
            if (place == NONE) {
                place = count;
                count++;
            }
            toldDays[place] = day;
            toldHeights[place] = height;
        }
    }
}
