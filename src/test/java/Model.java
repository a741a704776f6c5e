import java.util.ArrayList;
import java.util.List;
import java.util.TreeMap;

/** The document once more, in its plainest and slowest form: each answer is found anew by trying. */
final class Model {
    private final int[][] half = new int[9][6];
    private final List<int[]> weights = new ArrayList<>();
    private int[] ballast = {0, 4};
    private int plank = 1000;
    private final TreeMap<Integer, Integer> told = new TreeMap<>();
    private int sill = 0;
    private int today = 0;
    private boolean launched = false;

    private static void index(int value, int count) {
        if (value < 0 || value >= count) {
            throw new IndexOutOfBoundsException();
        }
    }

    private static void range(int value, int least, int most) {
        if (value < least || value > most) {
            throw new IllegalArgumentException();
        }
    }

    private static void state(boolean refused) {
        if (refused) {
            throw new IllegalStateException();
        }
    }

    int offset(int station, int waterline, int value) {
        index(station, 9);
        index(waterline, 6);
        range(value, 0, 200);
        state(launched);
        int former = half[station][waterline];
        half[station][waterline] = value;
        return former;
    }

    int half(int station, int waterline) {
        index(station, 9);
        index(waterline, 6);
        return half[station][waterline];
    }

    private int[] lineOf(int waterline) {
        int[] line = new int[9];
        for (int station = 0; station < 9; station++) {
            line[station] = half[station][waterline];
        }
        return line;
    }

    private static int bending(int[] line, int stations) {
        int sum = 0;
        for (int at = 1; at + 1 < stations; at++) {
            int off = line[at - 1] + line[at + 1] - 2 * line[at];
            sum += off * off;
        }
        return sum;
    }

    int bend(int waterline) {
        index(waterline, 6);
        return bending(lineOf(waterline), 9);
    }

    int fair(int waterline, int tolerance) {
        index(waterline, 6);
        range(tolerance, 0, 2);
        state(launched);
        int[] old = lineOf(waterline);
        int[] best = old.clone();
        // also the line as it is, by 1 worse, so that the first one of the least bend is taken
        int[] least = {bending(old, 9) + 1};
        tryAll(old, tolerance, 0, new int[9], best, least);
        for (int station = 0; station < 9; station++) {
            half[station][waterline] = best[station];
        }
        return bending(old, 9) - bending(best, 9);
    }

    private static void tryAll(int[] old, int tolerance, int at, int[] line, int[] best, int[] least) {
        if (bending(line, at) >= least[0]) {
            return;
        }
        if (at == 9) {
            least[0] = bending(line, 9);
            System.arraycopy(line, 0, best, 0, 9);
            return;
        }
        for (int value = old[at] - tolerance; value <= old[at] + tolerance; value++) {
            if (value >= 0 && value <= 200) {
                line[at] = value;
                tryAll(old, tolerance, at + 1, line, best, least);
            }
        }
    }

    int area(int station, int waterline) {
        index(station, 9);
        index(waterline, 6);
        int sum = 0;
        for (int below = 0; below < waterline; below++) {
            sum += half[station][below] + half[station][below + 1];
        }
        return sum;
    }

    int volume(int waterline) {
        index(waterline, 6);
        int sum = 0;
        for (int station = 0; station < 8; station++) {
            sum += area(station, waterline) + area(station + 1, waterline);
        }
        return sum;
    }

    private long momentUpTo(int waterline) {
        long sum = 0;
        for (int station = 0; station < 8; station++) {
            sum += (2L * station + 1) * (area(station, waterline) + area(station + 1, waterline));
        }
        return sum;
    }

    int weigh(int station, int weight) {
        index(station, 9);
        range(weight, 0, 999);
        state(weights.size() == 16);
        weights.add(new int[] {weight, station});
        return weights.size() - 1;
    }

    int change(int which, int station, int weight) {
        index(which, weights.size());
        index(station, 9);
        range(weight, 0, 999);
        int[] former = weights.set(which, new int[] {weight, station});
        return former[0] * 10 + former[1];
    }

    private List<int[]> all() {
        List<int[]> all = new ArrayList<>(weights);
        all.add(ballast);
        return all;
    }

    int draught() {
        long load = 0;
        for (int[] weight : all()) {
            load += weight[0] * 10L;
        }
        for (int waterline = 0; waterline < 6; waterline++) {
            if (volume(waterline) >= load) {
                return waterline;
            }
        }
        return -1;
    }

    int trim() {
        int draught = draught();
        if (draught == -1) {
            return 0;
        }
        long load = 0;
        long moment = 0;
        for (int[] weight : all()) {
            load += weight[0] * 10L;
            moment += weight[0] * 20L * weight[1];
        }
        long volume = volume(draught);
        long ahead = load == 0 ? 0 : Math.floorDiv(100 * moment, load);
        return (int) (ahead - (volume == 0 ? 0 : Math.floorDiv(100 * momentUpTo(draught), volume)));
    }

    int ballast(int most) {
        range(most, 0, 99);
        int[] best = ballast;
        long least = Long.MAX_VALUE;
        for (int weight = 0; weight <= most; weight++) {
            for (int station = 0; station < 9; station++) {
                ballast = new int[] {weight, station};
                if (draught() != -1 && Math.abs(trim()) < least) {
                    least = Math.abs(trim());
                    best = ballast;
                }
            }
        }
        ballast = best;
        return 10 * ballast[0] + ballast[1];
    }

    int strake(int strake) {
        index(strake, 5);
        int sum = 0;
        for (int station = 0; station < 8; station++) {
            sum += 10 + Math.abs(half[station][strake] - half[station + 1][strake]);
        }
        return sum;
    }

    /** What is left of each plank; ends[2 * strake + 0 or 1] is where the end of a strake is cut. */
    private List<Integer> cut(int[] ends) {
        List<Integer> order = new ArrayList<>();
        for (int piece = 0; piece < 10; piece++) {
            order.add(piece);
        }
        order.sort((a, b) -> strake(b / 2) != strake(a / 2) ? strake(b / 2) - strake(a / 2) : a - b);
        List<Integer> left = new ArrayList<>();
        for (int piece : order) {
            int rest = strake(piece / 2);
            while (rest > plank) {
                left.add(0);
                rest -= plank;
            }
            int from = 0;
            while (from < left.size() && left.get(from) < rest) {
                from++;
            }
            if (from == left.size()) {
                left.add(plank);
            }
            left.set(from, left.get(from) - rest);
            ends[piece] = from;
        }
        return left;
    }

    int planks(int length) {
        range(length, 100, 4000);
        plank = length;
        return cut(new int[10]).size();
    }

    int plankOf(int strake, boolean right) {
        index(strake, 5);
        int[] ends = new int[10];
        cut(ends);
        return ends[2 * strake + (right ? 1 : 0)];
    }

    private int tideOf(int day) {
        return told.containsKey(day) ? told.get(day) : (7 * day + 3) % 19;
    }

    int tide(int day, int height) {
        range(day, 0, 9999);
        range(height, 0, 99);
        state(told.size() == 40 && !told.containsKey(day));
        int former = tideOf(day);
        told.put(day, height);
        return former;
    }

    int sill(int height) {
        range(height, 0, 50);
        int former = sill;
        sill = height;
        return former;
    }

    int needed() {
        return draught() == -1 ? -1 : draught() * 10 + sill + Math.abs(trim()) / 10;
    }

    int day() {
        for (int day = today; day <= today + 99; day++) {
            if (!launched && draught() != -1 && tideOf(day) >= needed()) {
                return day;
            }
        }
        return -1;
    }

    int launch() {
        state(launched);
        state(draught() == -1);
        state(tideOf(today) < needed());
        launched = true;
        return tideOf(today) - needed();
    }

    int pass(int days) {
        range(days, 1, 99);
        state(today + days > 9000);
        today += days;
        return today;
    }
}
