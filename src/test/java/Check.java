/** Counts and prints the answers of a test that are not the due ones. */
final class Check {
    /** A call that may throw. */
    interface Call {
        long answer();
    }

    private int wrong = 0;
    private int calls = 0;

    void due(String call, long got, long want) {
        calls++;
        if (got != want) {
            wrong++;
            System.out.println(call + " answered " + got + ", due is " + want);
        }
    }

    void due(String call, String got, String want) {
        calls++;
        if (!got.equals(want)) {
            wrong++;
            System.out.println(call + " answered " + got + ", due is " + want);
        }
    }

    /** The call throws exactly this kind, and the object answers afterwards as before. */
    void refused(FairBatten x, String name, Class<?> kind, Call call) {
        String before = seen(x);
        due(name, told(call), "throws." + kind.getSimpleName());
        due("what is seen after " + name, seen(x), before);
    }

    /** What a call answers, or "throws." and the name of what it throws. */
    static String told(Call call) {
        try {
            return Long.toString(call.answer());
        } catch (RuntimeException e) {
            return "throws." + e.getClass().getSimpleName();
        }
    }

    /** What a few calls that change nothing show of an object; Run tells all that it holds. */
    private static String seen(FairBatten x) {
        StringBuilder all = new StringBuilder();
        for (int waterline = 0; waterline < 3; waterline++) {
            all.append(x.half(4, waterline)).append(' ');
        }
        all.append(x.volume(5)).append(' ').append(x.draught()).append(' ').append(x.trim()).append(' ');
        all.append(x.plankOf(0, true)).append(' ').append(x.plankOf(4, true)).append(' ');
        return all.append(x.needed()).append(' ').append(x.day()).toString();
    }

    int wrong() {
        return wrong;
    }

    void finish(String test) {
        System.out.println(test + ": " + calls + " checks, " + wrong + " wrong");
        if (wrong != 0 || calls == 0) {
            System.exit(1);
        }
    }
}
