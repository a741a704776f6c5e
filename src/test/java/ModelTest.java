import java.util.Random;

/** Runs of calls, always the same ones, answered by FairBatten as the model answers them. */
final class ModelTest {
    private static final int RUNS = 400;
    private static final int CALLS = 512;
    private static final int[] EDGES = {Integer.MIN_VALUE, -1, 0, 1, 2, 3, 4, 5, 6, 8, 9, 10, 15, 16, 40, 50, 51,
        99, 100, 199, 200, 201, 999, 1000, 4000, 4001, 9000, 9999, 10000, Integer.MAX_VALUE};

    private final Check check = new Check();
    private final Random random;
    private final FairBatten x = new FairBatten();
    private final Model model = new Model();
    // what this run's half breadths, weights and sills are below, so that some hulls float and launch
    private final int beam;
    private final int heft;
    private final int kind;

    private ModelTest(int seed) {
        random = new Random(seed);
        beam = new int[] {3, 20, 201}[seed % 3];
        heft = new int[] {2, 30, 300, 1000}[seed / 3 % 4];
        kind = seed % 5;
    }

    public static void main(String[] args) {
        Check all = new Check();
        int launches = 0;
        for (int seed = 0; seed < RUNS; seed++) {
            ModelTest run = new ModelTest(seed);
            run.fill();
            for (int call = 54; call < CALLS; call++) {
                run.step();
            }
            all.due("wrong answers of the run " + seed, run.check.wrong(), 0);
            launches += Check.told(() -> run.x.offset(0, 0, 0)).endsWith("StateException") ? 1 : 0;
        }
        all.due("some are launched, some are not", launches > RUNS / 10 && launches < RUNS ? 1 : 0, 1);
        all.finish("ModelTest");
    }

    private void fill() {
        for (int station = 0; station < 9; station++) {
            for (int waterline = 0; waterline < 6; waterline++) {
                int half = kind == 0 ? 0 : random.nextInt(beam);
                if (kind == 1) {
                    half = Math.min(beam - 1, station * waterline);
                }
                both("offset", station, waterline, half);
            }
        }
    }

    private int odd(int ordinary) {
        return random.nextInt(40) == 0 ? EDGES[random.nextInt(EDGES.length)] : ordinary;
    }

    private void step() {
        int station = odd(random.nextInt(9));
        int waterline = odd(random.nextInt(6));
        switch (random.nextInt(34)) {
            case 0, 1 -> both("offset", station, waterline, odd(random.nextInt(beam)));
            case 2 -> both("half", station, waterline, 0);
            case 3 -> both("bend", waterline, 0, 0);
            case 4, 5 -> both("fair", waterline, odd(random.nextInt(3)), 0);
            case 6 -> both("area", station, waterline, 0);
            case 7 -> both("volume", waterline, 0, 0);
            case 8 -> both("volumeAnew", waterline, 0, 0);
            case 9, 10 -> both("weigh", station, odd(random.nextInt(heft)), 0);
            case 11, 12, 13 -> both("change", odd(random.nextInt(12)), station, odd(random.nextInt(heft)));
            case 14 -> both("ballast", odd(random.nextInt(100)), 0, 0);
            case 15, 16 -> both("draught", 0, 0, 0);
            case 17, 18 -> both("trim", 0, 0, 0);
            case 19 -> both("strake", odd(random.nextInt(5)), 0, 0);
            case 20, 21 -> both("planks", odd(100 + random.nextInt(random.nextBoolean() ? 400 : 3901)), 0, 0);
            case 22, 23 -> both("plankOf", odd(random.nextInt(5)), random.nextInt(2), 0);
            case 24, 25, 26 -> both("tide", odd(random.nextInt(kind == 2 ? 45 : 500)), odd(random.nextInt(100)), 0);
            case 27 -> both("sill", odd(random.nextInt(51)), 0, 0);
            case 28 -> both("needed", 0, 0, 0);
            case 29, 30 -> both("day", 0, 0, 0);
            case 31 -> both(random.nextInt(4) == 0 ? "launch" : "day", 0, 0, 0);
            default -> both("pass", odd(kind == 4 ? 90 + random.nextInt(11) : 1 + random.nextInt(9)), 0, 0);
        }
    }

    private void both(String name, int a, int b, int c) {
        String call = name + "(" + a + ", " + b + ", " + c + ")";
        check.due(call, Check.told(() -> ours(name, a, b, c)), Check.told(() -> due(name, a, b, c)));
    }

    private int ours(String name, int a, int b, int c) {
        return switch (name) {
            case "offset" -> x.offset(a, b, c);
            case "half" -> x.half(a, b);
            case "bend" -> x.bend(a);
            case "fair" -> x.fair(a, b);
            case "area" -> x.area(a, b);
            case "volume" -> x.volume(a);
            case "volumeAnew" -> x.volumeAnew(a);
            case "weigh" -> x.weigh(a, b);
            case "change" -> x.change(a, b, c);
            case "ballast" -> x.ballast(a);
            case "draught" -> x.draught();
            case "trim" -> x.trim();
            case "strake" -> x.strake(a);
            case "planks" -> x.planks(a);
            case "plankOf" -> x.plankOf(a, b == 1);
            case "tide" -> x.tide(a, b);
            case "sill" -> x.sill(a);
            case "needed" -> x.needed();
            case "day" -> x.day();
            case "launch" -> x.launch();
            default -> x.pass(a);
        };
    }

    private int due(String name, int a, int b, int c) {
        return switch (name) {
            case "offset" -> model.offset(a, b, c);
            case "half" -> model.half(a, b);
            case "bend" -> model.bend(a);
            case "fair" -> model.fair(a, b);
            case "area" -> model.area(a, b);
            case "volume", "volumeAnew" -> model.volume(a);
            case "weigh" -> model.weigh(a, b);
            case "change" -> model.change(a, b, c);
            case "ballast" -> model.ballast(a);
            case "draught" -> model.draught();
            case "trim" -> model.trim();
            case "strake" -> model.strake(a);
            case "planks" -> model.planks(a);
            case "plankOf" -> model.plankOf(a, b == 1);
            case "tide" -> model.tide(a, b);
            case "sill" -> model.sill(a);
            case "needed" -> model.needed();
            case "day" -> model.day();
            case "launch" -> model.launch();
            default -> model.pass(a);
        };
    }
}
