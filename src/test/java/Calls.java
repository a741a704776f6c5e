/** Makes a call that is told by its name and its numbers, as in "offset 3 1 60" or "plankOf right 2". */
final class Calls {
    static final String INDEX = "throws.IndexOutOfBoundsException";
    static final String ARGUMENT = "throws.IllegalArgumentException";
    static final String STATE = "throws.IllegalStateException";

    static String told(FairBatten x, String call) {
        return Check.told(() -> answer(x, call.split(" ")));
    }

    static int number(String call, int place) {
        return number(call.split(" "), place);
    }

    private static int number(String[] parts, int place) {
        return Integer.parseInt(parts[place]);
    }

    private static long answer(FairBatten x, String[] call) {
        if (call[0].equals("plankOf")) {
            return x.plankOf(number(call, 2), call[1].equals("right"));
        }
        return switch (call.length) {
            case 1 -> withNone(x, call[0]);
            case 2 -> withOne(x, call[0], number(call, 1));
            case 3 -> withTwo(x, call[0], number(call, 1), number(call, 2));
            default -> withThree(x, call[0], number(call, 1), number(call, 2), number(call, 3));
        };
    }

    private static long withNone(FairBatten x, String name) {
        return switch (name) {
            case "draught" -> x.draught();
            case "trim" -> x.trim();
            case "needed" -> x.needed();
            case "day" -> x.day();
            case "launch" -> x.launch();
            default -> throw new AssertionError("no such call: " + name);
        };
    }

    private static long withOne(FairBatten x, String name, int a) {
        return switch (name) {
            case "bend" -> x.bend(a);
            case "volume" -> x.volume(a);
            case "volumeAnew" -> x.volumeAnew(a);
            case "ballast" -> x.ballast(a);
            case "strake" -> x.strake(a);
            case "planks" -> x.planks(a);
            case "sill" -> x.sill(a);
            case "pass" -> x.pass(a);
            default -> throw new AssertionError("no such call: " + name);
        };
    }

    private static long withTwo(FairBatten x, String name, int a, int b) {
        return switch (name) {
            case "half" -> x.half(a, b);
            case "fair" -> x.fair(a, b);
            case "area" -> x.area(a, b);
            case "weigh" -> x.weigh(a, b);
            case "tide" -> x.tide(a, b);
            default -> throw new AssertionError("no such call: " + name);
        };
    }

    private static long withThree(FairBatten x, String name, int a, int b, int c) {
        return switch (name) {
            case "offset" -> x.offset(a, b, c);
            case "change" -> x.change(a, b, c);
            default -> throw new AssertionError("no such call: " + name);
        };
    }
}
