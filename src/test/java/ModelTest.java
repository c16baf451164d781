import java.lang.reflect.InvocationTargetException;
import java.lang.reflect.Method;
import java.util.Arrays;
import java.util.List;
import java.util.Map;
import java.util.TreeMap;

/** Long runs of calls, chosen by a fixed row of numbers, on the program and on the model. */
public final class ModelTest {
    private static final int RUNS = 700;
    private static final int CALLS = 512;
    private static final int[] FAR_OFF = {Integer.MIN_VALUE, Integer.MIN_VALUE + 1, -1000,
        Integer.MAX_VALUE - 1, Integer.MAX_VALUE};
    /** A name that stands here often is called often. */
    private static final String[] CHANGES = {
        "offer", "offer", "offer", "takeOff", "base", "base", "set", "set", "complain", "complain",
        "complain", "complain", "complain", "decide", "decide", "decide", "decide", "decide",
        "decide", "appeal", "appeal", "appeal", "appeal", "judge", "judge", "judge", "closeMonth",
        "closeMonth", "append", "clearBuffer", "complainAll", "undo"};
    private static final String[] LOOKS = {
        "firstError", "complaint", "complaint", "amends", "precedent", "precedent", "kind", "count",
        "count", "setting", "ofCustomer", "whyNot", "whyNot", "whyNot", "fair", "ifJudged",
        "ifJudged", "monthsToEqual", "followShare"};
    /** What the runs must have met, or they would compare too little. */
    private static final List<String> WANTED = List.of("offer 5", "takeOff 0", "decide 1",
            "decide 2", "decide 3", "appeal 2", "judge 0", "judge 1", "judge 2", "judge 3",
            "undo 0", "undo 5", "whyNot 0", "whyNot 1", "whyNot 2", "whyNot 3", "whyNot 4",
            "whyNot 5", "fair -1", "fair 0", "fair 3", "monthsToEqual -1", "monthsToEqual 0",
            "monthsToEqual 1", "monthsToEqual 2", "monthsToEqual 5", "followShare 0.5",
            "complainAll 24", "complain throws.IllegalStateException",
            "complainAll throws.IllegalStateException", "decide throws.IllegalStateException",
            "judge throws.IllegalStateException", "appeal throws.IllegalStateException",
            "offer throws.IllegalStateException", "append throws.IllegalStateException",
            "closeMonth throws.IllegalStateException");

    private final Checks checks = new Checks("ModelTest");
    private final Map<String, Integer> met = new TreeMap<>();
    private long seed;
    /** Half of the runs keep mostly to one kind and class, so that precedents have followers. */
    private boolean narrow;
    private Model model;

    public static void main(String[] args) throws Exception {
        new ModelTest().runAll();
    }

    private void runAll() throws Exception {
        for (int run = 0; run < RUNS; run++) {
            runOne(run);
        }
        for (String wanted : WANTED) {
            checks.due("met: " + wanted, met.containsKey(wanted) ? 1 : 0, 1);
        }
        checks.end();
    }

    private void runOne(int run) throws Exception {
        seed = 7919L * run + 17;
        AmendsLedger program = new AmendsLedger();
        model = new Model();
        narrow = run % 2 == 0;
        boolean late = run % 7 == 6;
        int settled = late ? 4 + pick(5) : pick(3) == 0 ? 0 : 60;
        int closed = settled + (late ? monthsClosed() : 0);
        for (int call = 0; call < CALLS; call++) {
            String name = call >= settled && call < closed ? "closeMonth"
                    : call % 3 == 0 ? "digest" : nameFor(call, settled);
            if (name.equals("text")) {
                call += appendText(program, run, call) - 1;
                continue;
            }
            Object[] told = argumentsFor(name);
            compare(program, name, told, run, call);
        }
    }

    /** Some runs come to the last month, and the others near it, with calls left for more. */
    private int monthsClosed() {
        return pick(2) == 0 ? 496 + pick(6) : 430 + pick(60);
    }

    private String nameFor(int call, int settled) {
        if (call < settled) {
            return pick(2) == 0 ? "offer" : "complain";
        }
        if (pick(90) == 0) {
            return "text";
        }
        return pick(3) == 0 ? LOOKS[pick(LOOKS.length)] : CHANGES[pick(CHANGES.length)];
    }

    /** Puts a text of complaints, at times with a wrong sign in it, into the buffer. */
    private int appendText(AmendsLedger program, int run, int call) throws Exception {
        StringBuilder text = new StringBuilder();
        int parts = 1 + pick(9);
        for (int part = 0; part < parts; part++) {
            text.append(part == 0 ? "" : ";").append('k').append(pick(4)).append('s')
                    .append(1 + pick(9)).append('c').append(pick(10));
        }
        if (pick(4) == 0) {
            text.setCharAt(pick(text.length()), (char) (33 + pick(94)));
        }
        int calls = 0;
        while (calls < text.length() && call + calls < CALLS) {
            Object[] told = {(int) text.charAt(calls)};
            compare(program, "append", told, run, call + calls);
            calls++;
        }
        return calls;
    }

    private void compare(AmendsLedger program, String name, Object[] told, int run, int call)
            throws Exception {
        Class<?>[] types = new Class<?>[told.length];
        Arrays.fill(types, int.class);
        String got = answer(program, AmendsLedger.class.getDeclaredMethod(name, types), told);
        String want = answer(model, Model.class.getDeclaredMethod(name, types), told);
        met.merge(name + " " + want, 1, Integer::sum);
        checks.due("run " + run + ", call " + call + ": " + name + Arrays.toString(told), got,
                want);
    }

    private static String answer(Object on, Method method, Object[] told) throws Exception {
        try {
            return method.invoke(on, told).toString();
        } catch (InvocationTargetException e) {
            return "throws." + e.getCause().getClass().getSimpleName();
        }
    }

    private Object[] argumentsFor(String name) {
        switch (name) {
            case "offer": return row(kind(), cost(), near(1, 3, 0, 10), near(7, 9, 0, 10));
            case "takeOff": return row(kind(), amends());
            case "base": return row(kind(), near(0, narrow ? 60 : 300, -1, 10000));
            case "set": return setting();
            case "complain": return row(kind(), severity(), near(0, 9, -1, 10));
            case "decide": return decision();
            case "appeal": return row(complaintIn(1));
            case "judge": return judgement();
            case "append": return row(near(33, 126, 32, 127));
            case "complaint": return row(complaint(), near(0, 10, -1, 11));
            case "amends": return row(kind(), amends(), near(0, 4, -1, 5));
            case "precedent": return row(kind(), near(0, 2, -1, 3), near(0, 4, -1, 5));
            case "kind": return row(kind(), near(0, 7, -1, 8));
            case "count": return row(near(0, 11, -1, 12));
            case "setting": return row(near(0, 2, -1, 3));
            case "ofCustomer": return row(near(0, 9, -1, 10), near(0, 5, -1, 24));
            case "whyNot": return row(complaint(), amends(), near(-1, 2, -2, 6));
            case "fair": return row(complaint());
            case "ifJudged": return row(complaintIn(2), amends(), near(0, 3, -1, 4));
            default: return row();
        }
    }

    private Object[] decision() {
        int complaint = complaintIn(0);
        int reason = near(0, 3, -1, 6);
        boolean known = complaint >= 0 && complaint < model.count(0) && reason >= 0 && reason <= 5;
        return row(complaint, known ? fitting(complaint, reason) : amends(), reason);
    }

    private Object[] judgement() {
        int complaint = complaintIn(2);
        boolean known = complaint >= 0 && complaint < model.count(0);
        return row(complaint, known ? fitting(complaint, -1) : amends());
    }

    /** Mostly an amends that there is no reason against. */
    private int fitting(int complaint, int reason) {
        int amends = amends();
        for (int i = 0; i < 6 && pick(6) != 0; i++) {
            int other = Math.floorMod(amends + i, 6);
            if (model.whyNot(complaint, other, reason) == 0) {
                return other;
            }
        }
        return amends;
    }

    /** Mostly a complaint in this stage. */
    private int complaintIn(int stage) {
        int complaint = complaint();
        for (int i = 0; i < 24 && pick(20) != 0; i++) {
            int other = Math.floorMod(complaint + i, 24);
            if (other < model.count(0) && model.complaint(other, 4) == stage) {
                return other;
            }
        }
        return complaint;
    }

    private Object[] setting() {
        int setting = near(0, 2, -1, 3);
        int most = setting == 2 ? 100 : setting == 0 ? 6 : 3;
        return row(setting, near(setting == 0 ? 1 : 0, most, -1, most + 1));
    }

    private int kind() {
        return pick(12) == 0 ? near(0, 3, -1, 4) : pick(narrow ? 1 : 2);
    }

    private int severity() {
        return narrow && pick(5) != 0 ? 4 + pick(3) : near(1, 9, 0, 10);
    }

    private int cost() {
        int kind = pick(8);
        if (kind < 2) {
            return kind == 0 ? near(0, 999, -1, 1000) : pick(4);
        }
        return 5 * pick(narrow ? 25 : 40);
    }

    private int amends() {
        return near(0, 5, -1, 6);
    }

    private int complaint() {
        return pick(3) == 0 ? near(0, 23, -1, 24) : pick(12);
    }

    /** Mostly from least to most; at times one of the two others, or one that is far off. */
    private int near(int least, int most, int low, int high) {
        switch (pick(60)) {
            case 0: return low;
            case 1: return high;
            case 2: return pick(4) == 0 ? FAR_OFF[pick(FAR_OFF.length)] : most;
            default: return least + pick(most - least + 1);
        }
    }

    private static Object[] row(int... values) {
        return Arrays.stream(values).boxed().toArray();
    }

    private int pick(int bound) {
        seed = seed * 6364136223846793005L + 1442695040888963407L;
        return (int) ((seed >>> 33) % bound);
    }
}
