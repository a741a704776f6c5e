/** Runs of calls, always the same ones, answered by FairBatten as the model answers them. */
final class ModelTest {
    private static final int RUNS = 400;
    private static final int CALLS = 512;
    private static final int[] EDGES = {Integer.MIN_VALUE, -1, 0, 1, 2, 3, 4, 5, 6, 8, 9, 10, 15, 16, 40, 50, 51,
        99, 100, 199, 200, 201, 999, 1000, 4000, 4001, 9000, 9999, 10000, Integer.MAX_VALUE};

    private final Check check = new Check();
    private int drawn;
    private final FairBatten x = new FairBatten();
    private final Model model = new Model();
    // what this run's half breadths, weights and sills are below, so that some hulls float and launch
    private final int beam;
    private final int heft;
    private final int kind;

    private ModelTest(int seed) {
        drawn = 7919 * seed + 1;
        beam = new int[] {3, 20, 201}[seed % 3];
        heft = new int[] {2, 30, 300, 1000}[seed / 3 % 4];
        kind = seed % 5;
    }

    public static void main(String[] args) {
        Check all = new Check();
        int launches = 0;
        for (int seed = 0; seed < RUNS; seed++) {
            ModelTest run = new ModelTest(seed);
            run.fill();
            for (int call = 54; call < CALLS; call++) {
                run.step();
            }
            all.due("wrong answers of the run " + seed, run.check.wrong(), 0);
            launches += Check.told(() -> run.model.offset(0, 0, 0)).endsWith("StateException") ? 1 : 0;
        }
        all.due("some are launched, some are not", launches > RUNS / 10 && launches < RUNS ? 1 : 0, 1);
        all.finish("ModelTest");
    }

    private void fill() {
        for (int station = 0; station < 9; station++) {
            for (int waterline = 0; waterline < 6; waterline++) {
                int half = kind == 0 ? 0 : below(beam);
                if (kind == 1) {
                    half = Math.min(beam - 1, station * waterline);
                }
                both("offset", station, waterline, half);
            }
        }
    }

    private int odd(int ordinary) {
        return below(40) == 0 ? EDGES[below(EDGES.length)] : ordinary;
    }

    /** A number from 0 to one less than this, of a row that each run has for its own. */
    private int below(int count) {
        drawn = drawn * 1103515245 + 12345;
        return (drawn >>> 8) % count;
    }

    private void step() {
        int station = odd(below(9));
        int waterline = odd(below(6));
        switch (below(34)) {
            case 0, 1 -> both("offset", station, waterline, odd(below(beam)));
            case 2 -> both("half", station, waterline);
            case 3 -> both("bend", waterline);
            case 4, 5 -> both("fair", waterline, odd(below(3)));
            case 6 -> both("area", station, waterline);
            case 7 -> both("volume", waterline);
            case 8 -> both("volumeAnew", waterline);
            case 9, 10 -> both("weigh", station, odd(below(heft)));
            case 11, 12, 13 -> both("change", odd(below(12)), station, odd(below(heft)));
            case 14 -> both("ballast", odd(below(100)));
            case 15, 16 -> both("draught");
            case 17, 18 -> both("trim");
            case 19 -> both("strake", odd(below(5)));
            case 20, 21 -> both("planks", odd(100 + below(below(2) == 0 ? 400 : 3901)));
            case 22 -> both("plankOf left", odd(below(5)));
            case 23 -> both("plankOf right", odd(below(5)));
            case 24, 25, 26 -> both("tide", odd(below(kind == 2 ? 45 : 500)), odd(below(100)));
            case 27 -> both("sill", odd(below(51)));
            case 28 -> both("needed");
            case 29, 30 -> both("day");
            case 31 -> both(below(4) == 0 ? "launch" : "day");
            default -> both("pass", odd(kind == 4 ? 90 + below(11) : 1 + below(9)));
        }
    }

    private void both(String name, int... a) {
        StringBuilder call = new StringBuilder(name);
        for (int number : a) {
            call.append(' ').append(number);
        }
        check.due(call.toString(), Calls.told(x, call.toString()), Check.told(() -> due(name, a)));
    }

    private int due(String name, int[] a) {
        return switch (name) {
            case "offset" -> model.offset(a[0], a[1], a[2]);
            case "half" -> model.half(a[0], a[1]);
            case "bend" -> model.bend(a[0]);
            case "fair" -> model.fair(a[0], a[1]);
            case "area" -> model.area(a[0], a[1]);
            case "volume", "volumeAnew" -> model.volume(a[0]);
            case "weigh" -> model.weigh(a[0], a[1]);
            case "change" -> model.change(a[0], a[1], a[2]);
            case "ballast" -> model.ballast(a[0]);
            case "draught" -> model.draught();
            case "trim" -> model.trim();
            case "strake" -> model.strake(a[0]);
            case "planks" -> model.planks(a[0]);
            case "plankOf left" -> model.plankOf(a[0], false);
            case "plankOf right" -> model.plankOf(a[0], true);
            case "tide" -> model.tide(a[0], a[1]);
            case "sill" -> model.sill(a[0]);
            case "needed" -> model.needed();
            case "day" -> model.day();
            case "launch" -> model.launch();
            default -> model.pass(a[0]);
        };
    }
}
