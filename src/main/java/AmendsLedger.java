import java.util.Arrays;

/**
 * A ledger of goodwill that treats like cases alike: complaints, menus of amends, precedents,
 * departures, appeals, top-ups, budgets, what would be, complaints as texts, and undo.
 */
public final class AmendsLedger {
    public static final int NONE = -1;

    private static final int KINDS = 4;
    private static final int MENU = 6;
    private static final int GROUPS = 3;
    private static final int COMPLAINTS = 24;
    private static final int CUSTOMERS = 10;
    private static final int SETTINGS = 3;
    private static final int SAVED_STATES = 6;
    private static final int BUFFER = 60;
    private static final int LAST_MONTH = 500;
    private static final int MONTHS_AHEAD = 24;

    private static final int GREATEST_COST = 999;
    private static final int GREATEST_BASE = 9999;
    private static final int GREATEST_SEVERITY = 9;
    private static final int GREATEST_REASON = 5;
    private static final int FIRST_BASE = 500;

    private static final int BINDING_MONTHS = 0;
    private static final int APPEAL_MONTHS = 1;
    private static final int CARRIED_PERCENT = 2;
    private static final int[] FIRST_SETTING = {2, 1, 50};
    private static final int[] LEAST_SETTING = {1, 0, 0};
    private static final int[] GREATEST_SETTING = {6, 3, 100};

    private static final int OPEN = 0;
    private static final int DECIDED = 1;
    private static final int APPEALED = 2;
    private static final int JUDGED = 3;

    private static final int SETS = 1;
    private static final int FOLLOWS = 2;
    private static final int DEPARTS = 3;

    private static final int WRONG_STAGE = 1;
    private static final int NOT_OFFERED = 2;
    private static final int WRONG_SEVERITY = 3;
    private static final int AGAINST_EARLIER = 4;
    private static final int TOO_DEAR = 5;

    private static final int LEAST_CODE = 33;
    private static final int GREATEST_CODE = 126;
    /** A complaint's text with the ";" behind it; the last one stands without it. */
    private static final int TEXT_STEP = 7;
    private static final int KIND_PLACE = 1;
    private static final int SEVERITY_PLACE = 3;
    private static final int CUSTOMER_PLACE = 5;

    private static final long FIRST_HASH = 2539L;
    private static final int FRACTION_BITS = 52;
    private static final long EXPONENT_OF_ONE = 1023L;

    private final State now = new State();
    /** What would be is tried out here, so that looks leave the state alone. */
    private final State trial = new State();
    /** A ring: the place behind the latest saved state is the one to save in next. */
    private final State[] saved = new State[SAVED_STATES];
    private int savedCount;
    private int savedNext;
    private final int[] buffer = new int[BUFFER];
    private int length;

    public AmendsLedger() {
        for (int i = 0; i < SAVED_STATES; i++) {
            saved[i] = new State();
        }
    }

    // ---- menus, budgets

    public int offer(int kind, int cost, int least, int most)
            throws IndexOutOfBoundsException, IllegalArgumentException, IllegalStateException {
        requireIndex(isKind(kind));
        requireArgument(isWithin(cost, 0, GREATEST_COST));
        requireArgument(isWithin(least, 1, GREATEST_SEVERITY));
        requireArgument(isWithin(most, least, GREATEST_SEVERITY));
        requireState(now.menus.sizeOf(kind) < MENU);
        save();
        return now.menus.add(kind, cost, least, most);
    }

    public int takeOff(int kind, int amends)
            throws IndexOutOfBoundsException, IllegalStateException {
        requireIndex(now.menus.has(kind, amends));
        requireState(now.menus.isOffered(kind, amends));
        save();
        return now.menus.remove(kind, amends);
    }

    public int base(int kind, int base)
            throws IndexOutOfBoundsException, IllegalArgumentException {
        requireIndex(isKind(kind));
        requireArgument(isWithin(base, 0, GREATEST_BASE));
        save();
        return now.changeBase(kind, base);
    }

    public int set(int setting, int value)
            throws IndexOutOfBoundsException, IllegalArgumentException {
        requireIndex(isSetting(setting));
        requireArgument(isValueOf(setting, value));
        save();
        return now.changeSetting(setting, value);
    }

    // ---- complaints

    public int complain(int kind, int severity, int customer)
            throws IndexOutOfBoundsException, IllegalArgumentException, IllegalStateException {
        requireIndex(isKind(kind));
        requireArgument(isWithin(severity, 1, GREATEST_SEVERITY));
        requireArgument(isCustomer(customer));
        requireState(now.complaints.size < COMPLAINTS);
        save();
        return now.complaints.add(kind, severity, customer);
    }

    public int decide(int complaint, int amends, int reason)
            throws IndexOutOfBoundsException, IllegalArgumentException, IllegalStateException {
        requireIndex(now.complaints.has(complaint));
        requireArgument(isWithin(reason, 0, GREATEST_REASON));
        requireState(now.againstDecision(complaint, amends, reason) == 0);
        save();
        return now.makeDecision(complaint, amends, reason);
    }

    public int appeal(int complaint) throws IndexOutOfBoundsException, IllegalStateException {
        requireIndex(now.complaints.has(complaint));
        requireState(now.canBeAppealed(complaint));
        save();
        now.complaints.changeStage(complaint, APPEALED);
        return now.complaints.inStage(APPEALED);
    }

    public int judge(int complaint, int amends)
            throws IndexOutOfBoundsException, IllegalStateException {
        requireIndex(now.complaints.has(complaint));
        requireState(now.againstJudgement(complaint, amends) == 0);
        save();
        return now.makeJudgement(complaint, amends);
    }

    public int closeMonth() throws IllegalStateException {
        requireState(now.month < LAST_MONTH);
        save();
        return now.turnMonth();
    }

    // ---- texts

    public int append(int code) throws IllegalArgumentException, IllegalStateException {
        requireArgument(isWithin(code, LEAST_CODE, GREATEST_CODE));
        requireState(length < BUFFER);
        buffer[length] = code;
        length++;
        return length;
    }

    public int clearBuffer() {
        int before = length;
        length = 0;
        return before;
    }

    public int firstError() {
        for (int i = 0; i < length; i++) {
            if (!fitsPlace(i % TEXT_STEP, codeAt(i))) {
                return i;
            }
        }
        return length;
    }

    public int complainAll() throws IllegalArgumentException, IllegalStateException {
        requireArgument(firstError() == length && length % TEXT_STEP == TEXT_STEP - 1);
        int more = (length + 1) / TEXT_STEP;
        requireState(now.complaints.size + more <= COMPLAINTS);
        save();
        for (int i = 0; i < more; i++) {
            int start = i * TEXT_STEP;
            now.complaints.add(digitAt(start + KIND_PLACE), digitAt(start + SEVERITY_PLACE),
                    digitAt(start + CUSTOMER_PLACE));
        }
        length = 0;
        return now.complaints.size;
    }

    public int undo() throws IllegalStateException {
        requireState(savedCount > 0);
        savedNext = (savedNext + SAVED_STATES - 1) % SAVED_STATES;
        savedCount--;
        now.copyFrom(savedAt(savedNext));
        return savedCount;
    }

    // ---- looks; nothing is changed

    public int complaint(int complaint, int what)
            throws IndexOutOfBoundsException, IllegalArgumentException {
        requireIndex(now.complaints.has(complaint));
        requireArgument(isWithin(what, 0, 10));
        return now.ofComplaint(complaint, what);
    }

    public int amends(int kind, int amends, int what)
            throws IndexOutOfBoundsException, IllegalArgumentException {
        requireIndex(now.menus.has(kind, amends));
        requireArgument(isWithin(what, 0, 4));
        switch (what) {
            case 0: return now.menus.costOf(kind, amends);
            case 1: return now.menus.leastOf(kind, amends);
            case 2: return now.menus.mostOf(kind, amends);
            case 3: return now.menus.isOffered(kind, amends) ? 1 : 0;
            default: return now.complaints.having(kind, amends);
        }
    }

    public int precedent(int kind, int group, int what)
            throws IndexOutOfBoundsException, IllegalArgumentException {
        requireIndex(isKind(kind) && isGroup(group));
        requireArgument(isWithin(what, 0, 4));
        int latest = now.precedents.latestOf(kind, group);
        if (!now.precedents.has(latest)) {
            return NONE;
        }
        switch (what) {
            case 0: return now.precedents.amendsOf(latest);
            case 1: return now.precedents.monthOf(latest);
            case 2: return now.precedents.setterOf(latest);
            case 3: return now.isBinding(kind, latest) ? 1 : 0;
            default: return now.complaints.following(latest);
        }
    }

    public int kind(int kind, int what)
            throws IndexOutOfBoundsException, IllegalArgumentException {
        requireIndex(isKind(kind));
        requireArgument(isWithin(what, 0, 7));
        switch (what) {
            case 0: return now.baseOf(kind);
            case 1: return now.budgetOf(kind);
            case 2: return now.spentOf(kind);
            case 3: return now.leftOf(kind);
            case 4: return now.menus.sizeOf(kind);
            case 5: return now.complaints.ofKind(kind);
            case 6: return now.complaints.gotInKind(kind);
            default: return now.owedInKind(kind);
        }
    }

    public int count(int what) throws IllegalArgumentException {
        requireArgument(isWithin(what, 0, 11));
        switch (what) {
            case 0: return now.complaints.size;
            case 1: return now.complaints.inStage(OPEN);
            case 2: return now.complaints.inStage(DECIDED);
            case 3: return now.complaints.inStage(APPEALED);
            case 4: return now.complaints.inStage(JUDGED);
            case 5: return now.month;
            case 6: return now.complaints.gotInAll();
            case 7: return now.waiting();
            case 8: return now.departing();
            case 9: return now.precedents.size;
            case 10: return now.complaints.unequalPairs();
            default: return savedCount;
        }
    }

    public int setting(int setting) throws IndexOutOfBoundsException {
        requireIndex(isSetting(setting));
        return now.settingOf(setting);
    }

    public int ofCustomer(int customer, int place)
            throws IndexOutOfBoundsException, IllegalArgumentException {
        requireIndex(isCustomer(customer));
        requireArgument(isWithin(place, 0, COMPLAINTS - 1));
        return now.complaints.ofOne(customer, place);
    }

    // ---- what would be; nothing is changed

    public int whyNot(int complaint, int amends, int reason)
            throws IndexOutOfBoundsException, IllegalArgumentException {
        requireIndex(now.complaints.has(complaint));
        requireArgument(reason == NONE || isWithin(reason, 0, GREATEST_REASON));
        if (reason == NONE) {
            return now.againstJudgement(complaint, amends);
        }
        return now.againstDecision(complaint, amends, reason);
    }

    public int fair(int complaint) throws IndexOutOfBoundsException {
        requireIndex(now.complaints.has(complaint));
        int kind = now.complaints.kindOf(complaint);
        int best = NONE;
        for (int i = 0; i < now.menus.sizeOf(kind); i++) {
            boolean cheaper = best == NONE
                    || now.menus.costOf(kind, i) < now.menus.costOf(kind, best);
            if (cheaper && now.againstDecision(complaint, i, 0) == 0) {
                best = i;
            }
        }
        return best;
    }

    public int ifJudged(int complaint, int amends, int what)
            throws IndexOutOfBoundsException, IllegalArgumentException {
        requireIndex(now.complaints.has(complaint));
        requireArgument(isWithin(what, 0, 3));
        if (now.againstJudgement(complaint, amends) != 0) {
            return NONE;
        }
        trial.copyFrom(now);
        int topUps = trial.makeJudgement(complaint, amends);
        switch (what) {
            case 0: return trial.complaints.gotInAll() - now.complaints.gotInAll();
            case 1: return topUps;
            case 2: return trial.waiting();
            default: return trial.owedInAll();
        }
    }

    public int monthsToEqual() {
        if (now.waiting() == 0) {
            return 0;
        }
        trial.copyFrom(now);
        for (int months = 1; months <= MONTHS_AHEAD; months++) {
            trial.turnMonth();
            if (trial.waiting() == 0) {
                return months;
            }
        }
        return NONE;
    }

    public double followShare() {
        int decisions = now.complaints.size - now.complaints.inStage(OPEN);
        if (decisions <= 0) {
            return 1.0;
        }
        return (double) (decisions - now.departing()) / (double) decisions;
    }

    public long digest() {
        long hash = FIRST_HASH;
        for (int what = 0; what <= 11; what++) {
            hash = 31 * hash + count(what);
        }
        for (int setting = 0; setting < SETTINGS; setting++) {
            hash = 31 * hash + setting(setting);
        }
        for (int kind = 0; kind < KINDS; kind++) {
            hash = withKind(hash, kind);
        }
        for (int complaint = 0; complaint < now.complaints.size; complaint++) {
            hash = withComplaint(hash, complaint);
            hash = 31 * hash + fair(complaint);
            hash = 31 * hash + whyNot(complaint, 0, 0);
            for (int what = 0; what <= 3; what++) {
                hash = 31 * hash + ifJudged(complaint, 1, what);
            }
        }
        for (int customer = 0; customer < CUSTOMERS; customer++) {
            hash = 31 * hash + ofCustomer(customer, 0);
        }
        hash = 31 * hash + monthsToEqual();
        hash = 31 * hash + bitsOf(followShare());
        return withBuffer(hash);
    }

    // ---- parts of the digest

    private long withKind(long before, int kind) {
        long hash = before;
        for (int what = 0; what <= 7; what++) {
            hash = 31 * hash + kind(kind, what);
        }
        for (int amends = 0; amends < now.menus.sizeOf(kind); amends++) {
            for (int what = 0; what <= 4; what++) {
                hash = 31 * hash + amends(kind, amends, what);
            }
        }
        for (int group = 0; group < GROUPS; group++) {
            for (int what = 0; what <= 4; what++) {
                hash = 31 * hash + precedent(kind, group, what);
            }
        }
        return hash;
    }

    private long withComplaint(long before, int complaint) {
        long hash = before;
        for (int what = 0; what <= 10; what++) {
            hash = 31 * hash + complaint(complaint, what);
        }
        return hash;
    }

    private long withBuffer(long before) {
        long hash = 31 * before + length;
        for (int i = 0; i < length; i++) {
            hash = 31 * hash + codeAt(i);
        }
        return hash;
    }

    /** The bits of a double from 0 to 1; LANGUAGE.md leaves no library call for them. */
    private static long bitsOf(double share) {
        if (share <= 0.0) {
            return 0L;
        }
        double scaled = share;
        long exponent = EXPONENT_OF_ONE;
        for (int i = 0; i < 60 && scaled < 1.0; i++) {
            scaled = scaled * 2.0;
            exponent--;
        }
        double fraction = (scaled - 1.0) * (double) (1L << FRACTION_BITS);
        return (exponent << FRACTION_BITS) | (long) fraction;
    }

    // ---- the buffer

    private int codeAt(int place) {
        return isWithin(place, 0, BUFFER - 1) ? buffer[place] : 0;
    }

    private int digitAt(int place) {
        return codeAt(place) - '0';
    }

    private static boolean fitsPlace(int place, int code) {
        switch (place) {
            case 0: return code == 'k';
            case KIND_PLACE: return isWithin(code, '0', '3');
            case 2: return code == 's';
            case SEVERITY_PLACE: return isWithin(code, '1', '9');
            case 4: return code == 'c';
            case CUSTOMER_PLACE: return isWithin(code, '0', '9');
            default: return code == ';';
        }
    }

    // ---- saved states

    private void save() {
        State place = savedAt(savedNext);
        if (place != null) {
            place.copyFrom(now);
        }
        savedNext = (savedNext + 1) % SAVED_STATES;
        if (savedCount < SAVED_STATES) {
            savedCount++;
        }
    }

    private State savedAt(int place) {
        return isWithin(place, 0, SAVED_STATES - 1) ? saved[place] : null;
    }

    // ---- ranges

    private static void requireIndex(boolean holds) {
        if (!holds) {
            throw new IndexOutOfBoundsException();
        }
    }

    private static void requireArgument(boolean holds) {
        if (!holds) {
            throw new IllegalArgumentException();
        }
    }

    private static void requireState(boolean holds) {
        if (!holds) {
            throw new IllegalStateException();
        }
    }

    private static boolean isWithin(int value, int least, int greatest) {
        return value >= least && value <= greatest;
    }

    private static boolean isKind(int kind) {
        return kind >= 0 && kind < KINDS;
    }

    private static boolean isGroup(int group) {
        return group >= 0 && group < GROUPS;
    }

    private static boolean isCustomer(int customer) {
        return customer >= 0 && customer < CUSTOMERS;
    }

    private static boolean isSetting(int setting) {
        return setting >= 0 && setting < SETTINGS;
    }

    private static boolean isValueOf(int setting, int value) {
        return isSetting(setting)
                && isWithin(value, LEAST_SETTING[setting], GREATEST_SETTING[setting]);
    }

    private static void copyAll(int[] from, int[] to) {
        System.arraycopy(from, 0, to, 0, Math.min(from.length, to.length));
    }

    /** The menus of all kinds, six slots a kind. */
    private static final class Menus {
        private final int[] sizes = new int[KINDS];
        private final int[] costs = new int[KINDS * MENU];
        private final int[] leasts = new int[KINDS * MENU];
        private final int[] mosts = new int[KINDS * MENU];
        /** 1 while it is offered, then 0. */
        private final int[] offers = new int[KINDS * MENU];

        void copyFrom(Menus other) {
            copyAll(other.sizes, sizes);
            copyAll(other.costs, costs);
            copyAll(other.leasts, leasts);
            copyAll(other.mosts, mosts);
            copyAll(other.offers, offers);
        }

        int sizeOf(int kind) {
            return isKind(kind) ? sizes[kind] : 0;
        }

        boolean has(int kind, int amends) {
            return isKind(kind) && amends >= 0 && amends < sizes[kind];
        }

        int costOf(int kind, int amends) {
            return has(kind, amends) ? costs[kind * MENU + amends] : 0;
        }

        int leastOf(int kind, int amends) {
            return has(kind, amends) ? leasts[kind * MENU + amends] : 0;
        }

        int mostOf(int kind, int amends) {
            return has(kind, amends) ? mosts[kind * MENU + amends] : 0;
        }

        boolean isOffered(int kind, int amends) {
            return has(kind, amends) && offers[kind * MENU + amends] == 1;
        }

        boolean covers(int kind, int amends, int severity) {
            return isWithin(severity, leastOf(kind, amends), mostOf(kind, amends));
        }

        /** Returns the number of the new amends, NONE if there is no room for it. */
        int add(int kind, int cost, int least, int most) {
            if (!isKind(kind) || sizes[kind] >= MENU) {
                return NONE;
            }
            int number = sizes[kind];
            int slot = kind * MENU + number;
            costs[slot] = cost;
            leasts[slot] = least;
            mosts[slot] = most;
            offers[slot] = 1;
            sizes[kind] = number + 1;
            return number;
        }

        /** Returns how many of this menu are offered then. */
        int remove(int kind, int amends) {
            if (has(kind, amends)) {
                offers[kind * MENU + amends] = 0;
            }
            int offered = 0;
            for (int i = 0; i < sizeOf(kind); i++) {
                if (isOffered(kind, i)) {
                    offered++;
                }
            }
            return offered;
        }
    }

    /** The complaints, by ascending numbers. */
    private static final class Complaints {
        private int size;
        private final int[] kinds = new int[COMPLAINTS];
        private final int[] severities = new int[COMPLAINTS];
        private final int[] customers = new int[COMPLAINTS];
        private final int[] stages = new int[COMPLAINTS];
        private final int[] amendsHad = new int[COMPLAINTS];
        private final int[] got = new int[COMPLAINTS];
        private final int[] reasons = new int[COMPLAINTS];
        private final int[] months = new int[COMPLAINTS];
        /** The number of the precedent that it follows; NONE while it is open, or if it departs. */
        private final int[] followed = new int[COMPLAINTS];

        void copyFrom(Complaints other) {
            size = other.size;
            copyAll(other.kinds, kinds);
            copyAll(other.severities, severities);
            copyAll(other.customers, customers);
            copyAll(other.stages, stages);
            copyAll(other.amendsHad, amendsHad);
            copyAll(other.got, got);
            copyAll(other.reasons, reasons);
            copyAll(other.months, months);
            copyAll(other.followed, followed);
        }

        boolean has(int complaint) {
            return complaint >= 0 && complaint < size;
        }

        /** Returns the number of the new complaint, NONE if there is no room for it. */
        int add(int kind, int severity, int customer) {
            if (size >= COMPLAINTS) {
                return NONE;
            }
            int number = size;
            kinds[number] = kind;
            severities[number] = severity;
            customers[number] = customer;
            stages[number] = OPEN;
            amendsHad[number] = NONE;
            got[number] = 0;
            reasons[number] = NONE;
            months[number] = NONE;
            followed[number] = NONE;
            size = number + 1;
            return number;
        }

        int kindOf(int complaint) {
            return has(complaint) ? kinds[complaint] : NONE;
        }

        int severityOf(int complaint) {
            return has(complaint) ? severities[complaint] : NONE;
        }

        int customerOf(int complaint) {
            return has(complaint) ? customers[complaint] : NONE;
        }

        int groupOf(int complaint) {
            return has(complaint) ? (severities[complaint] - 1) / 3 : NONE;
        }

        int stageOf(int complaint) {
            return has(complaint) ? stages[complaint] : NONE;
        }

        int amendsOf(int complaint) {
            return has(complaint) ? amendsHad[complaint] : NONE;
        }

        int gotOf(int complaint) {
            return has(complaint) ? got[complaint] : 0;
        }

        int reasonOf(int complaint) {
            return has(complaint) ? reasons[complaint] : NONE;
        }

        int monthOf(int complaint) {
            return has(complaint) ? months[complaint] : NONE;
        }

        int followedBy(int complaint) {
            return has(complaint) ? followed[complaint] : NONE;
        }

        void changeStage(int complaint, int stage) {
            if (has(complaint)) {
                stages[complaint] = stage;
            }
        }

        void give(int complaint, int amends, int cost) {
            if (has(complaint)) {
                amendsHad[complaint] = amends;
                got[complaint] = cost;
            }
        }

        void noteDecision(int complaint, int month, int precedent, int reason) {
            if (has(complaint)) {
                stages[complaint] = DECIDED;
                months[complaint] = month;
                followed[complaint] = precedent;
                reasons[complaint] = reason;
            }
        }

        int inStage(int stage) {
            int found = 0;
            for (int i = 0; i < size; i++) {
                if (stageOf(i) == stage) {
                    found++;
                }
            }
            return found;
        }

        int ofKind(int kind) {
            int found = 0;
            for (int i = 0; i < size; i++) {
                if (kindOf(i) == kind) {
                    found++;
                }
            }
            return found;
        }

        int having(int kind, int amends) {
            int found = 0;
            for (int i = 0; i < size; i++) {
                if (kindOf(i) == kind && amendsOf(i) == amends) {
                    found++;
                }
            }
            return found;
        }

        int following(int precedent) {
            int found = 0;
            for (int i = 0; i < size; i++) {
                if (followedBy(i) == precedent) {
                    found++;
                }
            }
            return found;
        }

        /** Returns the complaint of a customer at a place, NONE if there are not so many. */
        int ofOne(int customer, int place) {
            int before = 0;
            for (int i = 0; i < size; i++) {
                if (customerOf(i) == customer) {
                    if (before == place) {
                        return i;
                    }
                    before++;
                }
            }
            return NONE;
        }

        int gotInKind(int kind) {
            int sum = 0;
            for (int i = 0; i < size; i++) {
                if (kindOf(i) == kind) {
                    sum += gotOf(i);
                }
            }
            return sum;
        }

        int gotInAll() {
            int sum = 0;
            for (int kind = 0; kind < KINDS; kind++) {
                sum += gotInKind(kind);
            }
            return sum;
        }

        int unequalPairs() {
            int pairs = 0;
            for (int i = 0; i < size; i++) {
                for (int j = i + 1; j < size; j++) {
                    if (areAlike(i, j) && gotOf(i) != gotOf(j)) {
                        pairs++;
                    }
                }
            }
            return pairs;
        }

        private boolean areAlike(int one, int other) {
            return followedBy(one) != NONE && followedBy(one) == followedBy(other);
        }
    }

    /** All precedents that were ever set; an older one lives on for those that follow it. */
    private static final class Precedents {
        private int size;
        /** At most one for each complaint, as each is decided once. */
        private final int[] amendsHeld = new int[COMPLAINTS];
        private final int[] months = new int[COMPLAINTS];
        private final int[] setters = new int[COMPLAINTS];
        private final int[] latest = new int[KINDS * GROUPS];

        Precedents() {
            Arrays.fill(latest, NONE);
        }

        void copyFrom(Precedents other) {
            size = other.size;
            copyAll(other.amendsHeld, amendsHeld);
            copyAll(other.months, months);
            copyAll(other.setters, setters);
            copyAll(other.latest, latest);
        }

        boolean has(int precedent) {
            return precedent >= 0 && precedent < size;
        }

        int latestOf(int kind, int group) {
            return isKind(kind) && isGroup(group) ? latest[kind * GROUPS + group] : NONE;
        }

        int amendsOf(int precedent) {
            return has(precedent) ? amendsHeld[precedent] : NONE;
        }

        int monthOf(int precedent) {
            return has(precedent) ? months[precedent] : NONE;
        }

        int setterOf(int precedent) {
            return has(precedent) ? setters[precedent] : NONE;
        }

        void raise(int precedent, int amends) {
            if (has(precedent)) {
                amendsHeld[precedent] = amends;
            }
        }

        /** Returns the number of the new precedent, NONE if there is no room for it. */
        int add(int kind, int group, int amends, int month, int setter) {
            if (!isKind(kind) || !isGroup(group) || size >= COMPLAINTS) {
                return NONE;
            }
            int number = size;
            amendsHeld[number] = amends;
            months[number] = month;
            setters[number] = setter;
            latest[kind * GROUPS + group] = number;
            size = number + 1;
            return number;
        }
    }

    /** All that undo brings back, and the rules by which it changes. */
    private static final class State {
        private final Menus menus = new Menus();
        private final Complaints complaints = new Complaints();
        private final Precedents precedents = new Precedents();
        private final int[] settings = new int[SETTINGS];
        private final int[] bases = new int[KINDS];
        private final int[] budgets = new int[KINDS];
        private final int[] spent = new int[KINDS];
        private int month;

        State() {
            copyAll(FIRST_SETTING, settings);
            Arrays.fill(bases, FIRST_BASE);
            Arrays.fill(budgets, FIRST_BASE);
        }

        void copyFrom(State other) {
            if (other == null) {
                return;
            }
            menus.copyFrom(other.menus);
            complaints.copyFrom(other.complaints);
            precedents.copyFrom(other.precedents);
            copyAll(other.settings, settings);
            copyAll(other.bases, bases);
            copyAll(other.budgets, budgets);
            copyAll(other.spent, spent);
            month = other.month;
        }

        int settingOf(int setting) {
            return isSetting(setting) ? settings[setting] : NONE;
        }

        int baseOf(int kind) {
            return isKind(kind) ? bases[kind] : 0;
        }

        int budgetOf(int kind) {
            return isKind(kind) ? budgets[kind] : 0;
        }

        int spentOf(int kind) {
            return isKind(kind) ? spent[kind] : 0;
        }

        int leftOf(int kind) {
            return isKind(kind) ? budgets[kind] - spent[kind] : 0;
        }

        /** Returns the previous value. */
        int changeSetting(int setting, int value) {
            int before = settingOf(setting);
            if (isSetting(setting)) {
                settings[setting] = value;
            }
            return before;
        }

        /** Returns the previous base. */
        int changeBase(int kind, int base) {
            int before = baseOf(kind);
            if (isKind(kind)) {
                bases[kind] = base;
            }
            return before;
        }

        // ---- precedents

        boolean isBinding(int kind, int precedent) {
            return precedents.has(precedent)
                    && month - precedents.monthOf(precedent) < settingOf(BINDING_MONTHS)
                    && menus.isOffered(kind, precedents.amendsOf(precedent));
        }

        /** Returns the precedent that binds for a complaint now, NONE if there is none. */
        int bindingFor(int complaint) {
            int kind = complaints.kindOf(complaint);
            int latest = precedents.latestOf(kind, complaints.groupOf(complaint));
            return isBinding(kind, latest) ? latest : NONE;
        }

        /** How a complaint stands to its precedent; 0 while it is open. */
        int tieOf(int complaint) {
            if (complaints.stageOf(complaint) == OPEN) {
                return 0;
            }
            int precedent = complaints.followedBy(complaint);
            if (precedent == NONE) {
                return DEPARTS;
            }
            return precedents.setterOf(precedent) == complaint ? SETS : FOLLOWS;
        }

        int departing() {
            int found = 0;
            for (int i = 0; i < complaints.size; i++) {
                if (tieOf(i) == DEPARTS) {
                    found++;
                }
            }
            return found;
        }

        // ---- decisions

        /** Returns the first reason against a decision, 0 if there is none. */
        int againstDecision(int complaint, int amends, int reason) {
            int kind = complaints.kindOf(complaint);
            if (complaints.stageOf(complaint) != OPEN) {
                return WRONG_STAGE;
            }
            if (!menus.isOffered(kind, amends)) {
                return NOT_OFFERED;
            }
            if (!menus.covers(kind, amends, complaints.severityOf(complaint))) {
                return WRONG_SEVERITY;
            }
            int binding = bindingFor(complaint);
            if (binding != NONE && precedents.amendsOf(binding) != amends && reason == 0) {
                return AGAINST_EARLIER;
            }
            return menus.costOf(kind, amends) > leftOf(kind) ? TOO_DEAR : 0;
        }

        /** Returns how the complaint stands to its precedent then. */
        int makeDecision(int complaint, int amends, int reason) {
            int kind = complaints.kindOf(complaint);
            int binding = bindingFor(complaint);
            hand(complaint, amends);
            if (binding == NONE) {
                int set = precedents.add(kind, complaints.groupOf(complaint), amends, month,
                        complaint);
                complaints.noteDecision(complaint, month, set, 0);
            } else if (precedents.amendsOf(binding) == amends) {
                complaints.noteDecision(complaint, month, binding, 0);
            } else {
                complaints.noteDecision(complaint, month, NONE, reason);
            }
            return tieOf(complaint);
        }

        /** Gives a complaint an amends of its kind and spends what that costs more than it got. */
        private void hand(int complaint, int amends) {
            int kind = complaints.kindOf(complaint);
            int cost = menus.costOf(kind, amends);
            if (isKind(kind)) {
                spent[kind] += cost - complaints.gotOf(complaint);
            }
            complaints.give(complaint, amends, cost);
        }

        // ---- appeals

        boolean canBeAppealed(int complaint) {
            return complaints.stageOf(complaint) == DECIDED
                    && month <= complaints.monthOf(complaint) + settingOf(APPEAL_MONTHS);
        }

        /** Returns the first reason against a judgement, 0 if there is none. */
        int againstJudgement(int complaint, int amends) {
            int kind = complaints.kindOf(complaint);
            if (complaints.stageOf(complaint) != APPEALED) {
                return WRONG_STAGE;
            }
            if (!menus.isOffered(kind, amends)) {
                return NOT_OFFERED;
            }
            if (!menus.covers(kind, amends, complaints.severityOf(complaint))) {
                return WRONG_SEVERITY;
            }
            int difference = menus.costOf(kind, amends) - complaints.gotOf(complaint);
            if (difference < 0) {
                return AGAINST_EARLIER;
            }
            return difference > leftOf(kind) ? TOO_DEAR : 0;
        }

        /** Returns how many other complaints get a top-up. */
        int makeJudgement(int complaint, int amends) {
            hand(complaint, amends);
            complaints.changeStage(complaint, JUDGED);
            int kind = complaints.kindOf(complaint);
            int precedent = complaints.followedBy(complaint);
            int held = menus.costOf(kind, precedents.amendsOf(precedent));
            if (precedent == NONE || menus.costOf(kind, amends) <= held) {
                return 0;
            }
            precedents.raise(precedent, amends);
            int topUps = 0;
            for (int i = 0; i < complaints.size; i++) {
                if (complaints.followedBy(i) == precedent && topUp(i) > 0) {
                    topUps++;
                }
            }
            return topUps;
        }

        // ---- top-ups

        /** Returns the difference for which a complaint waits, 0 if it does not wait. */
        int owedTo(int complaint) {
            int precedent = complaints.followedBy(complaint);
            if (!precedents.has(precedent)) {
                return 0;
            }
            int cost = menus.costOf(complaints.kindOf(complaint), precedents.amendsOf(precedent));
            return Math.max(0, cost - complaints.gotOf(complaint));
        }

        /** Returns what the complaint gets: all that it waits for, or 0. */
        private int topUp(int complaint) {
            int owed = owedTo(complaint);
            if (owed == 0 || owed > leftOf(complaints.kindOf(complaint))) {
                return 0;
            }
            hand(complaint, precedents.amendsOf(complaints.followedBy(complaint)));
            return owed;
        }

        int waiting() {
            int found = 0;
            for (int i = 0; i < complaints.size; i++) {
                if (owedTo(i) > 0) {
                    found++;
                }
            }
            return found;
        }

        int owedInKind(int kind) {
            int sum = 0;
            for (int i = 0; i < complaints.size; i++) {
                if (complaints.kindOf(i) == kind) {
                    sum += owedTo(i);
                }
            }
            return sum;
        }

        int owedInAll() {
            int sum = 0;
            for (int kind = 0; kind < KINDS; kind++) {
                sum += owedInKind(kind);
            }
            return sum;
        }

        // ---- months

        /** Returns what the complaints that waited get. */
        int turnMonth() {
            month++;
            for (int kind = 0; kind < KINDS; kind++) {
                budgets[kind] = bases[kind] + leftOf(kind) * settingOf(CARRIED_PERCENT) / 100;
                spent[kind] = 0;
            }
            int paid = 0;
            for (int i = 0; i < complaints.size; i++) {
                paid += topUp(i);
            }
            return paid;
        }

        // ---- looks

        int ofComplaint(int complaint, int what) {
            switch (what) {
                case 0: return complaints.kindOf(complaint);
                case 1: return complaints.severityOf(complaint);
                case 2: return complaints.customerOf(complaint);
                case 3: return complaints.groupOf(complaint);
                case 4: return complaints.stageOf(complaint);
                case 5: return complaints.amendsOf(complaint);
                case 6: return complaints.gotOf(complaint);
                case 7: return complaints.reasonOf(complaint);
                case 8: return complaints.monthOf(complaint);
                case 9: return tieOf(complaint);
                default: return owedTo(complaint);
            }
        }
    }
}
