import java.util.ArrayList;
import java.util.HashMap;
import java.util.IdentityHashMap;
import java.util.LinkedList;
import java.util.List;
import java.util.Map;
import java.util.regex.Pattern;

/**
 * The document told a second time, with objects that refer to one another and with the Java
 * library, so that the program can be compared with it call by call.
 */
final class Model {
    private static final int NONE = -1;
    private static final String ONE_COMPLAINT = "k[0-3]s[1-9]c[0-9]";
    private static final Pattern WHOLE = Pattern.compile(
            ONE_COMPLAINT + "(;" + ONE_COMPLAINT + ")*");

    private static final class Amends {
        int cost;
        int least;
        int most;
        boolean offered = true;
    }

    private static final class Precedent {
        Amends amends;
        int month;
        int setter;
    }

    private static final class Complaint {
        int kind;
        int severity;
        int customer;
        int stage;
        Amends amends;
        int got;
        int reason = NONE;
        int month = NONE;
        Precedent follows;
    }

    /** What undo brings back. */
    private static final class World {
        int month;
        int precedents;
        final int[] settings = {2, 1, 50};
        final int[] bases = {500, 500, 500, 500};
        final int[] budgets = {500, 500, 500, 500};
        final int[] spent = new int[4];
        final List<List<Amends>> menus = new ArrayList<>();
        final List<Complaint> complaints = new ArrayList<>();
        final Map<Integer, Precedent> latest = new HashMap<>();

        World() {
            for (int kind = 0; kind < 4; kind++) {
                menus.add(new ArrayList<>());
            }
        }

        World copy() {
            World other = new World();
            other.month = month;
            other.precedents = precedents;
            for (int i = 0; i < 3; i++) {
                other.settings[i] = settings[i];
            }
            Map<Amends, Amends> twins = new IdentityHashMap<>();
            for (int kind = 0; kind < 4; kind++) {
                other.bases[kind] = bases[kind];
                other.budgets[kind] = budgets[kind];
                other.spent[kind] = spent[kind];
                for (Amends each : menus.get(kind)) {
                    Amends twin = new Amends();
                    twin.cost = each.cost;
                    twin.least = each.least;
                    twin.most = each.most;
                    twin.offered = each.offered;
                    twins.put(each, twin);
                    other.menus.get(kind).add(twin);
                }
            }
            Map<Precedent, Precedent> heirs = new IdentityHashMap<>();
            for (Complaint each : complaints) {
                Complaint twin = new Complaint();
                twin.kind = each.kind;
                twin.severity = each.severity;
                twin.customer = each.customer;
                twin.stage = each.stage;
                twin.amends = twins.get(each.amends);
                twin.got = each.got;
                twin.reason = each.reason;
                twin.month = each.month;
                twin.follows = heir(each.follows, heirs, twins);
                other.complaints.add(twin);
            }
            latest.forEach((key, value) -> other.latest.put(key, heir(value, heirs, twins)));
            return other;
        }

        private static Precedent heir(Precedent of, Map<Precedent, Precedent> heirs,
                Map<Amends, Amends> twins) {
            if (of == null) {
                return null;
            }
            return heirs.computeIfAbsent(of, key -> {
                Precedent heir = new Precedent();
                heir.amends = twins.get(key.amends);
                heir.month = key.month;
                heir.setter = key.setter;
                return heir;
            });
        }
    }

    private World world = new World();
    private final LinkedList<World> saved = new LinkedList<>();
    private String text = "";

    int offer(int kind, int cost, int least, int most) {
        index(kind, 4);
        argument(cost >= 0 && cost <= 999 && least >= 1 && least <= 9);
        argument(most >= least && most <= 9);
        state(world.menus.get(kind).size() < 6);
        save();
        Amends added = new Amends();
        added.cost = cost;
        added.least = least;
        added.most = most;
        world.menus.get(kind).add(added);
        return world.menus.get(kind).size() - 1;
    }

    int takeOff(int kind, int amends) {
        index(kind, 4);
        index(amends, world.menus.get(kind).size());
        state(world.menus.get(kind).get(amends).offered);
        save();
        world.menus.get(kind).get(amends).offered = false;
        return (int) world.menus.get(kind).stream().filter(a -> a.offered).count();
    }

    int base(int kind, int base) {
        index(kind, 4);
        argument(base >= 0 && base <= 9999);
        save();
        int before = world.bases[kind];
        world.bases[kind] = base;
        return before;
    }

    int set(int setting, int value) {
        index(setting, 3);
        argument(setting != 0 || value >= 1 && value <= 6);
        argument(setting != 1 || value >= 0 && value <= 3);
        argument(setting != 2 || value >= 0 && value <= 100);
        save();
        int before = world.settings[setting];
        world.settings[setting] = value;
        return before;
    }

    int complain(int kind, int severity, int customer) {
        index(kind, 4);
        argument(severity >= 1 && severity <= 9 && customer >= 0 && customer <= 9);
        state(world.complaints.size() < 24);
        save();
        enter(kind, severity, customer);
        return world.complaints.size() - 1;
    }

    private void enter(int kind, int severity, int customer) {
        Complaint added = new Complaint();
        added.kind = kind;
        added.severity = severity;
        added.customer = customer;
        world.complaints.add(added);
    }

    int decide(int complaint, int amends, int reason) {
        index(complaint, world.complaints.size());
        argument(reason >= 0 && reason <= 5);
        state(whyNot(complaint, amends, reason) == 0);
        save();
        Complaint it = world.complaints.get(complaint);
        Precedent binding = binding(it);
        it.stage = 1;
        it.month = world.month;
        it.amends = world.menus.get(it.kind).get(amends);
        it.got = it.amends.cost;
        it.reason = 0;
        world.spent[it.kind] += it.amends.cost;
        if (binding == null) {
            it.follows = new Precedent();
            it.follows.amends = it.amends;
            it.follows.month = world.month;
            it.follows.setter = complaint;
            world.latest.put(key(it.kind, group(it)), it.follows);
            world.precedents++;
            return 1;
        }
        if (binding.amends == it.amends) {
            it.follows = binding;
            return 2;
        }
        it.reason = reason;
        return 3;
    }

    int appeal(int complaint) {
        index(complaint, world.complaints.size());
        Complaint it = world.complaints.get(complaint);
        state(it.stage == 1 && world.month <= it.month + world.settings[1]);
        save();
        it.stage = 2;
        return count(3);
    }

    int judge(int complaint, int amends) {
        index(complaint, world.complaints.size());
        state(whyNot(complaint, amends, NONE) == 0);
        save();
        return judgeIn(world, complaint, amends);
    }

    private static int judgeIn(World in, int complaint, int amends) {
        Complaint it = in.complaints.get(complaint);
        Amends given = in.menus.get(it.kind).get(amends);
        in.spent[it.kind] += given.cost - it.got;
        it.got = given.cost;
        it.amends = given;
        it.stage = 3;
        if (it.follows == null || given.cost <= it.follows.amends.cost) {
            return 0;
        }
        it.follows.amends = given;
        int topUps = 0;
        for (Complaint each : in.complaints) {
            if (each.follows == it.follows && topUp(in, each) > 0) {
                topUps++;
            }
        }
        return topUps;
    }

    int closeMonth() {
        state(world.month < 500);
        save();
        return closeIn(world);
    }

    private static int closeIn(World in) {
        in.month++;
        for (int kind = 0; kind < 4; kind++) {
            long left = in.budgets[kind] - in.spent[kind];
            in.budgets[kind] = (int) (in.bases[kind] + left * in.settings[2] / 100);
            in.spent[kind] = 0;
        }
        int paid = 0;
        for (Complaint each : in.complaints) {
            paid += topUp(in, each);
        }
        return paid;
    }

    private static int topUp(World in, Complaint it) {
        int owed = owed(it);
        if (owed > in.budgets[it.kind] - in.spent[it.kind]) {
            return 0;
        }
        if (owed > 0) {
            in.spent[it.kind] += owed;
            it.got += owed;
            it.amends = it.follows.amends;
        }
        return owed;
    }

    int append(int code) {
        argument(code >= 33 && code <= 126);
        state(text.length() < 60);
        text += (char) code;
        return text.length();
    }

    int clearBuffer() {
        int before = text.length();
        text = "";
        return before;
    }

    /** Tries for every prefix whether some ending makes complete complaints of it. */
    int firstError() {
        for (int end = 1; end <= text.length(); end++) {
            boolean begins = false;
            for (String rest : List.of("", "k0s1c0", "0s1c0", "s1c0", "1c0", "c0", "0")) {
                begins |= WHOLE.matcher(text.substring(0, end) + rest).matches();
            }
            if (!begins) {
                return end - 1;
            }
        }
        return text.length();
    }

    int complainAll() {
        argument(WHOLE.matcher(text).matches());
        String[] parts = text.split(";");
        state(world.complaints.size() + parts.length <= 24);
        save();
        for (String part : parts) {
            enter(part.charAt(1) - '0', part.charAt(3) - '0', part.charAt(5) - '0');
        }
        text = "";
        return world.complaints.size();
    }

    int undo() {
        state(!saved.isEmpty());
        world = saved.removeLast();
        return saved.size();
    }

    int complaint(int complaint, int what) {
        index(complaint, world.complaints.size());
        argument(what >= 0 && what <= 10);
        Complaint it = world.complaints.get(complaint);
        List<Integer> all = List.of(it.kind, it.severity, it.customer, group(it), it.stage,
                it.amends == null ? NONE : world.menus.get(it.kind).indexOf(it.amends), it.got,
                it.reason, it.month, tie(it, complaint), owed(it));
        return all.get(what);
    }

    private static int tie(Complaint it, int number) {
        if (it.stage == 0) {
            return 0;
        }
        if (it.follows == null) {
            return 3;
        }
        return it.follows.setter == number ? 1 : 2;
    }

    int amends(int kind, int amends, int what) {
        index(kind, 4);
        index(amends, world.menus.get(kind).size());
        argument(what >= 0 && what <= 4);
        Amends it = world.menus.get(kind).get(amends);
        int having = (int) world.complaints.stream().filter(c -> c.amends == it).count();
        return List.of(it.cost, it.least, it.most, it.offered ? 1 : 0, having).get(what);
    }

    int precedent(int kind, int group, int what) {
        index(kind, 4);
        index(group, 3);
        argument(what >= 0 && what <= 4);
        Precedent it = world.latest.get(key(kind, group));
        if (it == null) {
            return NONE;
        }
        int following = (int) world.complaints.stream().filter(c -> c.follows == it).count();
        return List.of(world.menus.get(kind).indexOf(it.amends), it.month, it.setter,
                binds(it) ? 1 : 0, following).get(what);
    }

    int kind(int kind, int what) {
        index(kind, 4);
        argument(what >= 0 && what <= 7);
        int complaints = 0;
        int got = 0;
        int owed = 0;
        for (Complaint each : world.complaints) {
            if (each.kind == kind) {
                complaints++;
                got += each.got;
                owed += owed(each);
            }
        }
        return List.of(world.bases[kind], world.budgets[kind], world.spent[kind],
                world.budgets[kind] - world.spent[kind], world.menus.get(kind).size(),
                complaints, got, owed).get(what);
    }

    int count(int what) {
        argument(what >= 0 && what <= 11);
        int[] all = new int[12];
        all[0] = world.complaints.size();
        all[5] = world.month;
        all[9] = world.precedents;
        all[11] = saved.size();
        for (Complaint each : world.complaints) {
            all[1 + each.stage]++;
            all[6] += each.got;
            all[7] += owed(each) > 0 ? 1 : 0;
            all[8] += each.stage != 0 && each.follows == null ? 1 : 0;
            for (Complaint other : world.complaints) {
                boolean alike = each.follows != null && each.follows == other.follows;
                all[10] += alike && each.got < other.got ? 1 : 0;
            }
        }
        return all[what];
    }

    int setting(int setting) {
        index(setting, 3);
        return world.settings[setting];
    }

    int ofCustomer(int customer, int place) {
        index(customer, 10);
        argument(place >= 0 && place <= 23);
        List<Integer> found = new ArrayList<>();
        for (int i = 0; i < world.complaints.size(); i++) {
            if (world.complaints.get(i).customer == customer) {
                found.add(i);
            }
        }
        return place < found.size() ? found.get(place) : NONE;
    }

    int whyNot(int complaint, int amends, int reason) {
        index(complaint, world.complaints.size());
        argument(reason >= NONE && reason <= 5);
        Complaint it = world.complaints.get(complaint);
        if (it.stage != (reason == NONE ? 2 : 0)) {
            return 1;
        }
        List<Amends> menu = world.menus.get(it.kind);
        if (amends < 0 || amends >= menu.size() || !menu.get(amends).offered) {
            return 2;
        }
        Amends told = menu.get(amends);
        if (it.severity < told.least || it.severity > told.most) {
            return 3;
        }
        Precedent binding = binding(it);
        boolean unlike = reason == 0 && binding != null && binding.amends != told;
        if (unlike || reason == NONE && told.cost < it.got) {
            return 4;
        }
        int more = reason == NONE ? told.cost - it.got : told.cost;
        return more > world.budgets[it.kind] - world.spent[it.kind] ? 5 : 0;
    }

    int fair(int complaint) {
        index(complaint, world.complaints.size());
        List<Amends> menu = world.menus.get(world.complaints.get(complaint).kind);
        for (int cost = 0; cost <= 999; cost++) {
            for (int amends = 0; amends < menu.size(); amends++) {
                if (menu.get(amends).cost == cost && whyNot(complaint, amends, 0) == 0) {
                    return amends;
                }
            }
        }
        return NONE;
    }

    int ifJudged(int complaint, int amends, int what) {
        index(complaint, world.complaints.size());
        argument(what >= 0 && what <= 3);
        if (whyNot(complaint, amends, NONE) != 0) {
            return NONE;
        }
        World then = world.copy();
        int topUps = judgeIn(then, complaint, amends);
        int kind = then.complaints.get(complaint).kind;
        int sum = then.complaints.stream().mapToInt(Model::owed).sum();
        return List.of(then.spent[kind] - world.spent[kind], topUps, waiting(then), sum).get(what);
    }

    int monthsToEqual() {
        World then = world.copy();
        for (int months = 0; months <= 24; months++) {
            if (waiting(then) == 0) {
                return months;
            }
            closeIn(then);
        }
        return NONE;
    }

    double followShare() {
        int decided = count(0) - count(1);
        return decided == 0 ? 1.0 : (double) (decided - count(8)) / decided;
    }

    long digest() {
        List<Long> values = new ArrayList<>();
        for (int what = 0; what < 12; what++) {
            values.add((long) count(what));
        }
        for (int setting = 0; setting < 3; setting++) {
            values.add((long) setting(setting));
        }
        for (int kind = 0; kind < 4; kind++) {
            for (int what = 0; what < 8; what++) {
                values.add((long) kind(kind, what));
            }
            for (int place = 0; place < 5 * kind(kind, 4); place++) {
                values.add((long) amends(kind, place / 5, place % 5));
            }
            for (int place = 0; place < 15; place++) {
                values.add((long) precedent(kind, place / 5, place % 5));
            }
        }
        for (int complaint = 0; complaint < count(0); complaint++) {
            for (int what = 0; what < 11; what++) {
                values.add((long) complaint(complaint, what));
            }
            values.add((long) fair(complaint));
            values.add((long) whyNot(complaint, 0, 0));
            for (int what = 0; what < 4; what++) {
                values.add((long) ifJudged(complaint, 1, what));
            }
        }
        for (int customer = 0; customer < 10; customer++) {
            values.add((long) ofCustomer(customer, 0));
        }
        values.add((long) monthsToEqual());
        values.add(Double.doubleToLongBits(followShare()));
        values.add((long) text.length());
        text.chars().forEach(code -> values.add((long) code));
        long hash = 2539;
        for (long value : values) {
            hash = 31 * hash + value;
        }
        return hash;
    }

    private static int waiting(World in) {
        return (int) in.complaints.stream().filter(c -> owed(c) > 0).count();
    }

    private static int owed(Complaint it) {
        return it.follows == null ? 0 : Math.max(0, it.follows.amends.cost - it.got);
    }

    private static int group(Complaint it) {
        return it.severity <= 3 ? 0 : it.severity <= 6 ? 1 : 2;
    }

    private static int key(int kind, int group) {
        return 10 * kind + group;
    }

    private Precedent binding(Complaint it) {
        Precedent latest = world.latest.get(key(it.kind, group(it)));
        return latest != null && binds(latest) ? latest : null;
    }

    private boolean binds(Precedent it) {
        return it.amends.offered && world.month <= it.month + world.settings[0] - 1;
    }

    private void save() {
        saved.add(world.copy());
        if (saved.size() > 6) {
            saved.removeFirst();
        }
    }

    private static void index(int value, int bound) {
        if (value < 0 || value >= bound) {
            throw new IndexOutOfBoundsException();
        }
    }

    private static void argument(boolean holds) {
        if (!holds) {
            throw new IllegalArgumentException();
        }
    }

    private static void state(boolean holds) {
        if (!holds) {
            throw new IllegalStateException();
        }
    }
}
