import java.util.ArrayList;
import java.util.List;
import java.util.TreeSet;

/** One run of calls on a new object, which shows one sentence of the document. */
final class Run {
    private static final int MOST_CALLS = 512;

    private final Check check;
    private final String sentence;
    private final FairBatten x = new FairBatten();
    // the calls that were not refused, so that another object can be brought to where this one is
    private final List<String> taken = new ArrayList<>();
    private int calls = 0;

    /** where: the promise, or the part of the terms; sentence: what the document says there. */
    Run(Check check, String where, String sentence) {
        this.check = check;
        this.sentence = where + ", \"" + sentence + "\": ";
    }

    /** The call answers this. */
    Run gives(String call, long due) {
        expect(call, Long.toString(due));
        taken.add(call);
        return this;
    }

    /** The call answers something, which this run does not look at. */
    Run makes(String call) {
        check.due(sentence + call + " is taken", make(call).startsWith("throws.") ? 0 : 1, 1);
        taken.add(call);
        return this;
    }

    /** The call throws this, and no later call tells that it was made. */
    Run refuses(String call, String kind) {
        expect(call, kind);
        check.due(sentence + "what later calls tell after " + call, later(call, true), later(call, false));
        return this;
    }

    /** All half breadths alike. */
    Run box(int half) {
        for (int waterline = 0; waterline < 6; waterline++) {
            line(waterline, half, half, half, half, half, half, half, half, half);
        }
        return this;
    }

    /** Tells the half breadths of a waterline, from the station 0 on. */
    Run line(int waterline, int... halves) {
        for (int station = 0; station < halves.length; station++) {
            makes("offset " + station + " " + waterline + " " + halves[station]);
        }
        return this;
    }

    /** The half breadths of a waterline are these, from the station 0 on. */
    Run hasLine(int waterline, int... halves) {
        for (int station = 0; station < halves.length; station++) {
            gives("half " + station + " " + waterline, halves[station]);
        }
        return this;
    }

    /** The planks of the strakes are these, of each the first one's and the second one's. */
    Run hasPlanks(int... planks) {
        for (int strake = 0; strake < 5; strake++) {
            gives("plankOf left " + strake, planks[2 * strake]);
            gives("plankOf right " + strake, planks[2 * strake + 1]);
        }
        return this;
    }

    /** Tells something of all that can be told, so that a change of any of it would be seen. */
    Run equip() {
        line(0, 0, 30, 60, 90, 100, 90, 50, 20, 10);
        line(1, 5, 60, 80, 110, 120, 110, 80, 40, 0);
        line(2, 200, 0, 90, 120, 130, 120, 90, 60, 30);
        line(5, 40, 80, 120, 140, 150, 140, 120, 90, 60);
        makes("weigh 2 30").makes("weigh 7 45").makes("weigh 0 12");
        makes("ballast 20").makes("planks 450").makes("sill 11").makes("pass 4");
        makes("tide 4 60").makes("tide 9 70");
        return this;
    }

    private void expect(String call, String due) {
        check.due(sentence + call, make(call), due);
    }

    private String make(String call) {
        calls++;
        within(calls);
        return Calls.told(x, call);
    }

    private void within(int made) {
        check.due(sentence + "calls of one object within 512", made <= MOST_CALLS ? 1 : 0, 1);
    }

    /** What another object tells that was brought here, with or without the refused call. */
    private String later(String refused, boolean made) {
        FairBatten y = new FairBatten();
        TreeSet<Integer> days = new TreeSet<>();
        for (String call : taken) {
            Calls.told(y, call);
            noteDay(call, days);
        }
        noteDay(refused, days);
        if (made) {
            Calls.told(y, refused);
        }
        List<String> tail = tail(days);
        within(taken.size() + 1 + tail.size());
        StringBuilder all = new StringBuilder();
        for (String call : tail) {
            all.append(call).append(" = ").append(Calls.told(y, call)).append("; ");
        }
        return all.toString();
    }

    private static void noteDay(String call, TreeSet<Integer> days) {
        if (call.startsWith("tide ")) {
            days.add(Calls.number(call, 1));
        }
    }

    /** Calls by which an object tells all that it holds. */
    private static List<String> tail(TreeSet<Integer> days) {
        List<String> tail = new ArrayList<>(List.of("draught", "trim", "needed", "day"));
        addLinesAndPlanks(tail);
        for (int day : days) {
            tail.add("tide " + day + " 1");
        }
        // how many more days can be told
        for (int more = 0; more <= 40; more++) {
            tail.add("tide " + (5000 + more) + " 1");
        }
        // so heavy that it has no draught: then its ballast is as it was
        for (int which = 0; which < 16; which++) {
            tail.add("change " + which + " 8 999");
        }
        for (int more = 0; more <= 16; more++) {
            tail.add("weigh 8 999");
        }
        tail.addAll(List.of("ballast 0", "sill 0", "pass 1", "pass 99"));
        for (int which = 0; which < 16; which++) {
            tail.add("change " + which + " 4 0");
        }
        tail.addAll(List.of("day", "launch", "day", "fair 1 1", "offset 8 5 0"));
        return tail;
    }

    private static void addLinesAndPlanks(List<String> tail) {
        for (int station = 0; station < 9; station++) {
            for (int waterline = 0; waterline < 6; waterline++) {
                tail.add("half " + station + " " + waterline);
            }
        }
        addPlanks(tail);
        // strakes of other lengths, by which the length of the planks is told too
        for (int waterline = 0; waterline < 5; waterline++) {
            tail.add("offset 3 " + waterline + " " + (40 * waterline + 30));
            tail.add("offset 5 " + waterline + " " + (40 * waterline + 35));
        }
        addPlanks(tail);
    }

    private static void addPlanks(List<String> tail) {
        for (int strake = 0; strake < 5; strake++) {
            tail.add("plankOf left " + strake);
            tail.add("plankOf right " + strake);
        }
    }
}
