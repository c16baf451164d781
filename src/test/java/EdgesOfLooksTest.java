/** Boundary cases of the promises 16 to 22: the looks. */
public final class EdgesOfLooksTest {
    private static final String FIRST_NAMED =
            "the one that is named first in the throws clause is thrown";
    private static final int[] NO_KIND = {Ledgers.FAR_BELOW, -1, 4, Ledgers.FAR_ABOVE};
    /** Each property of the complaints of the ledger that lived. */
    private static final int[][] LIVED = {
        {0, 5, 0, 1, 1, 1, 20, 0, 0, 1, 0},
        {0, 5, 1, 1, 3, 1, 20, 0, 0, 2, 0},
        {0, 5, 2, 1, 2, 0, 10, 0, 0, 2, 10},
        {0, 5, 3, 1, 1, 1, 20, 2, 0, 3, 0},
        {0, 5, 4, 1, 1, 4, 4, 0, 2, 1, 0},
        {0, 5, 5, 1, 0, -1, 0, -1, -1, 0, 0}};

    private static final Edges EDGES = new Edges("EdgesOfLooksTest");

    public static void main(String[] args) {
        promise16Complaint();
        promise16What();
        promise16WhileItIsOpen();
        promise16Numbers();
        promise16FirstNamed();
        promise17Kind();
        promise17Amends();
        promise17What();
        promise17HowManyHaveIt();
        promise17FirstNamed();
        promise18Kind();
        promise18Class();
        promise18What();
        promise18NeverOne();
        promise18HowManyFollow();
        promise18BindsNow();
        promise18FirstNamed();
        promise19Kind();
        promise19What();
        promise19Most();
        promise19FirstNamed();
        promise20What();
        promise20Stages();
        promise20WaitAndDepart();
        promise20Precedents();
        promise20AlikeAndUnequal();
        promise20SavedStates();
        promise21Setting();
        promise22Customer();
        promise22Place();
        promise22NotSoMany();
        promise22FirstNamed();
        EDGES.end();
    }

    // ---- promise 16

    private static void promise16Complaint() {
        EDGES.promise(16, "if there is no such complaint");
        AmendsLedger x = Ledgers.lived24();
        EDGES.allowed("the first", () -> x.complaint(0, 4), 1);
        EDGES.allowed("the 24th", () -> x.complaint(23, 4), 0);
        for (int complaint : new int[] {Ledgers.FAR_BELOW, -1, 6, 23, 24, Ledgers.FAR_ABOVE}) {
            EDGES.index("complaint " + complaint, Ledgers::lived,
                    y -> y.complaint(complaint, 0));
        }
        EDGES.index("complaint 24", Ledgers::lived24, y -> y.complaint(24, 0));
    }

    private static void promise16What() {
        EDGES.promise(16, "if what is not 0 to 10");
        for (int i = 0; i <= 10; i++) {
            int what = i;
            AmendsLedger x = Ledgers.lived();
            EDGES.allowed("what " + what, () -> x.complaint(2, what), LIVED[2][what]);
            EDGES.alike("nothing is changed", x, Ledgers.lived());
        }
        for (int what : new int[] {Ledgers.FAR_BELOW, -1, 11, Ledgers.FAR_ABOVE}) {
            EDGES.argument("what " + what, Ledgers::lived, x -> x.complaint(0, what));
            EDGES.argument("what " + what + ", open", Ledgers::lived, x -> x.complaint(5, what));
        }
    }

    private static void promise16WhileItIsOpen() {
        EDGES.promise(16, "NONE while it is open .. 0 while it is open");
        AmendsLedger x = Ledgers.lived();
        int[] open = {-1, 0, -1, -1, 0, 0};
        for (int i = 0; i < open.length; i++) {
            EDGES.due("what " + (5 + i), x.complaint(5, 5 + i), open[i]);
        }
        AmendsLedger y = Ledgers.offering(0);
        y.complain(0, 1, 0);
        y.decide(0, 0, 0);
        int[] decided = {0, 0, 0, 0, 1, 0};
        for (int i = 0; i < decided.length; i++) {
            EDGES.due("decided at no cost, what " + (5 + i), y.complaint(0, 5 + i), decided[i]);
        }
        y.undo();
        for (int i = 0; i < open.length; i++) {
            EDGES.due("open again by undo, what " + (5 + i), y.complaint(0, 5 + i), open[i]);
        }
    }

    private static void promise16Numbers() {
        EDGES.promise(16, "10: the difference for which it waits, 0 if it does not wait");
        AmendsLedger x = Ledgers.lived();
        for (int complaint = 0; complaint < 6; complaint++) {
            for (int what = 0; what <= 10; what++) {
                EDGES.due("complaint(" + complaint + ", " + what + ")",
                        x.complaint(complaint, what), LIVED[complaint][what]);
            }
        }
        AmendsLedger y = Ledgers.waitingFor(999);
        EDGES.due("the greatest difference", y.complaint(1, 10), 999);
        EDGES.due("got all", y.complaint(0, 6), 999);
        EDGES.due("does not wait", y.complaint(0, 10), 0);
    }

    private static void promise16FirstNamed() {
        EDGES.terms("16", FIRST_NAMED);
        EDGES.index("no complaint, what 11", Ledgers::lived, x -> x.complaint(6, 11));
        EDGES.index("no complaint, what -1", Ledgers::lived, x -> x.complaint(-1, -1));
    }

    // ---- promise 17

    private static void promise17Kind() {
        EDGES.promise(17, "`kind`: 0 to 3");
        AmendsLedger x = new AmendsLedger();
        for (int kind = 0; kind <= 3; kind++) {
            int told = kind;
            x.offer(kind, 10 + kind, 1, 9);
            EDGES.allowed("kind " + kind, () -> x.amends(told, 0, 0), 10 + kind);
        }
        for (int kind : NO_KIND) {
            EDGES.index("kind " + kind, Ledgers::lived, y -> y.amends(kind, 0, 0));
        }
    }

    private static void promise17Amends() {
        EDGES.promise(17, "if there is no such kind or amends");
        AmendsLedger x = Ledgers.livedFullMenu();
        EDGES.allowed("the first", () -> x.amends(0, 0, 0), 10);
        EDGES.allowed("the sixth", () -> x.amends(0, 5, 0), 50);
        EDGES.allowed("one taken off", () -> x.amends(2, 0, 0), 7);
        for (int amends : new int[] {Ledgers.FAR_BELOW, -1, 5, 6, Ledgers.FAR_ABOVE}) {
            EDGES.index("amends " + amends, Ledgers::lived, y -> y.amends(0, amends, 0));
        }
        EDGES.index("behind the sixth", Ledgers::livedFullMenu, y -> y.amends(0, 6, 0));
        EDGES.index("of an empty menu", Ledgers::lived, y -> y.amends(3, 0, 0));
    }

    private static void promise17What() {
        EDGES.promise(17, "if what is not 0 to 4");
        int[][] due = {{10, 1, 9, 1, 1}, {20, 1, 9, 1, 3}, {30, 1, 9, 1, 0}, {40, 4, 6, 1, 0},
            {4, 1, 9, 1, 1}};
        AmendsLedger x = Ledgers.lived();
        for (int i = 0; i < due.length; i++) {
            for (int j = 0; j <= 4; j++) {
                int amends = i;
                int what = j;
                EDGES.allowed("amends " + amends + ", what " + what,
                        () -> x.amends(0, amends, what), due[amends][what]);
            }
        }
        EDGES.due("one taken off", x.amends(2, 0, 3), 0);
        EDGES.alike("nothing is changed", x, Ledgers.lived());
        for (int what : new int[] {Ledgers.FAR_BELOW, -1, 5, Ledgers.FAR_ABOVE}) {
            EDGES.argument("what " + what, Ledgers::lived, y -> y.amends(0, 0, what));
        }
    }

    private static void promise17HowManyHaveIt() {
        EDGES.promise(17, "4: how many complaints have it now");
        AmendsLedger x = Ledgers.offering(1, 2);
        x.offer(1, 1, 1, 9);
        Ledgers.complain(x, 24, 1);
        for (int i = 0; i < 24; i++) {
            EDGES.due("so many have it", x.amends(0, 0, 4), i);
            x.decide(i, 0, 0);
        }
        EDGES.due("all have it", x.amends(0, 0, 4), 24);
        EDGES.due("none has the other", x.amends(0, 1, 4), 0);
        EDGES.due("none has another kind's", x.amends(1, 0, 4), 0);
        x.takeOff(0, 0);
        EDGES.due("all have it still", x.amends(0, 0, 4), 24);
        x.appeal(0);
        x.judge(0, 1);
        EDGES.due("now they have the other", x.amends(0, 1, 4), 24);
        EDGES.due("and none has it", x.amends(0, 0, 4), 0);
    }

    private static void promise17FirstNamed() {
        EDGES.terms("17", FIRST_NAMED);
        EDGES.index("no kind, what 5", Ledgers::lived, x -> x.amends(4, 0, 5));
        EDGES.index("no amends, what 5", Ledgers::lived, x -> x.amends(0, 5, 5));
        EDGES.index("no amends, what -1", Ledgers::lived, x -> x.amends(3, 0, -1));
    }

    // ---- promise 18

    private static void promise18Kind() {
        EDGES.promise(18, "`kind`: 0 to 3");
        AmendsLedger x = Ledgers.precedents24();
        for (int kind = 0; kind <= 3; kind++) {
            int told = kind;
            EDGES.allowed("kind " + kind, () -> x.precedent(told, 0, 2), 12 + kind);
        }
        for (int kind : NO_KIND) {
            EDGES.index("kind " + kind, Ledgers::lived, y -> y.precedent(kind, 0, 0));
        }
    }

    private static void promise18Class() {
        EDGES.promise(18, "`group`: the class, 0 to 2");
        AmendsLedger x = Ledgers.precedents24();
        for (int kind = 0; kind <= 3; kind++) {
            for (int group = 0; group <= 2; group++) {
                int told = kind;
                int inside = group;
                EDGES.allowed("class " + group, () -> x.precedent(told, inside, 2),
                        12 + kind + 4 * group);
            }
        }
        for (int group : new int[] {Ledgers.FAR_BELOW, -1, 3, Ledgers.FAR_ABOVE}) {
            EDGES.index("class " + group, Ledgers::lived, y -> y.precedent(0, group, 0));
        }
    }

    private static void promise18What() {
        EDGES.promise(18, "if what is not 0 to 4");
        int[] due = {4, 2, 4, 1, 1};
        AmendsLedger x = Ledgers.lived();
        for (int i = 0; i <= 4; i++) {
            int what = i;
            EDGES.allowed("what " + what, () -> x.precedent(0, 1, what), due[what]);
        }
        EDGES.alike("nothing is changed", x, Ledgers.lived());
        for (int what : new int[] {Ledgers.FAR_BELOW, -1, 5, Ledgers.FAR_ABOVE}) {
            EDGES.argument("what " + what, Ledgers::lived, y -> y.precedent(0, 1, what));
            EDGES.argument("what " + what + ", never one", Ledgers::lived,
                    y -> y.precedent(0, 0, what));
        }
    }

    private static void promise18NeverOne() {
        EDGES.promise(18, "NONE if there was never one");
        AmendsLedger x = Ledgers.lived();
        for (int kind = 0; kind <= 3; kind++) {
            for (int group = 0; group <= 2; group++) {
                for (int what = 0; what <= 4; what++) {
                    boolean ever = kind == 0 && group == 1;
                    EDGES.due("precedent", x.precedent(kind, group, what) == -1 ? 1 : 0,
                            ever ? 0 : 1);
                }
            }
        }
        AmendsLedger y = Ledgers.following(1, 1);
        EDGES.due("its setter is the complaint 0", y.precedent(0, 0, 2), 0);
        Ledgers.later(y, 9);
        EDGES.due("one that binds no more", y.precedent(0, 0, 3), 0);
        EDGES.due("its amends", y.precedent(0, 0, 0), 0);
    }

    private static void promise18HowManyFollow() {
        EDGES.promise(18, "4: how many complaints follow it (that one, too)");
        AmendsLedger x = Ledgers.offering(1, 2);
        Ledgers.complain(x, 24, 1);
        for (int i = 0; i < 24; i++) {
            x.decide(i, 0, 0);
            EDGES.due("followers", x.precedent(0, 0, 4), i + 1);
        }
        x.undo();
        x.decide(23, 1, 1);
        EDGES.due("one departs", x.precedent(0, 0, 4), 23);
        EDGES.due("none of another class", Ledgers.precedents24().precedent(3, 2, 4), 1);
    }

    private static void promise18BindsNow() {
        EDGES.promise(18, "3: 1 if it binds now, otherwise 0");
        AmendsLedger x = Ledgers.following(1, 1);
        EDGES.due("in its month", x.precedent(0, 0, 3), 1);
        x.closeMonth();
        EDGES.due("in its last month", x.precedent(0, 0, 3), 1);
        x.closeMonth();
        EDGES.due("in the month behind", x.precedent(0, 0, 3), 0);
        x.undo();
        EDGES.due("in its last month again", x.precedent(0, 0, 3), 1);
        x.takeOff(0, 0);
        EDGES.due("taken off", x.precedent(0, 0, 3), 0);
    }

    private static void promise18FirstNamed() {
        EDGES.terms("18", FIRST_NAMED);
        EDGES.index("no kind, what 5", Ledgers::lived, x -> x.precedent(4, 0, 5));
        EDGES.index("no class, what 5", Ledgers::lived, x -> x.precedent(0, 3, 5));
        EDGES.index("no class, what -1", Ledgers::lived, x -> x.precedent(0, -1, -1));
    }

    // ---- promise 19

    private static void promise19Kind() {
        EDGES.promise(19, "`kind`: 0 to 3");
        int[][] due = {{25, 25, 24, 1, 5, 6, 74, 10}, {500, 500, 0, 500, 1, 0, 0, 0},
            {500, 500, 0, 500, 1, 0, 0, 0}, {500, 500, 0, 500, 0, 0, 0, 0}};
        AmendsLedger x = Ledgers.lived();
        for (int i = 0; i <= 3; i++) {
            for (int j = 0; j <= 7; j++) {
                int kind = i;
                int what = j;
                EDGES.allowed("kind " + kind + ", what " + what, () -> x.kind(kind, what),
                        due[kind][what]);
            }
        }
        EDGES.alike("nothing is changed", x, Ledgers.lived());
        for (int kind : NO_KIND) {
            EDGES.index("kind " + kind, Ledgers::lived, y -> y.kind(kind, 0));
        }
    }

    private static void promise19What() {
        EDGES.promise(19, "if what is not 0 to 7");
        AmendsLedger x = Ledgers.lived();
        EDGES.allowed("what 0", () -> x.kind(0, 0), 25);
        EDGES.allowed("what 7", () -> x.kind(0, 7), 10);
        for (int what : new int[] {Ledgers.FAR_BELOW, -1, 8, Ledgers.FAR_ABOVE}) {
            EDGES.argument("what " + what, Ledgers::lived, y -> y.kind(0, what));
        }
    }

    private static void promise19Most() {
        EDGES.promise(19, "Returns the number.");
        AmendsLedger full = Ledgers.livedFullMenu();
        full.takeOff(0, 5);
        EDGES.due("six on the menu (also those that are not offered)", full.kind(0, 4), 6);
        EDGES.due("24 complaints", Ledgers.following(24, 1).kind(0, 5), 24);
        EDGES.due("what all of these got", Ledgers.following(24, 20).kind(0, 6), 480);
        EDGES.due("what is waited for", Ledgers.waiting23().kind(0, 7), 23);
        EDGES.due("nothing in another kind", Ledgers.waiting23().kind(1, 7), 0);
        AmendsLedger all = Ledgers.following(1, 500);
        EDGES.due("all is spent", all.kind(0, 2), 500);
        EDGES.due("nothing is left", all.kind(0, 3), 0);
    }

    private static void promise19FirstNamed() {
        EDGES.terms("19", FIRST_NAMED);
        EDGES.index("no kind, what 8", Ledgers::lived, x -> x.kind(4, 8));
        EDGES.index("no kind, what -1", Ledgers::lived, x -> x.kind(-1, -1));
    }

    // ---- promise 20

    private static void promise20What() {
        EDGES.promise(20, "if what is not 0 to 11");
        int[] due = {6, 1, 3, 1, 1, 2, 74, 1, 1, 2, 2, 6};
        AmendsLedger x = Ledgers.lived();
        for (int i = 0; i <= 11; i++) {
            int what = i;
            EDGES.allowed("what " + what, () -> x.count(what), due[what]);
        }
        EDGES.alike("nothing is changed", x, Ledgers.lived());
        for (int what : new int[] {Ledgers.FAR_BELOW, -1, 12, Ledgers.FAR_ABOVE}) {
            EDGES.argument("what " + what, Ledgers::lived, y -> y.count(what));
        }
    }

    private static void promise20Stages() {
        EDGES.promise(20, "1 to 4: those that are open, decided, under appeal, judged");
        AmendsLedger x = Ledgers.offering(1);
        Ledgers.complain(x, 24, 1);
        stages(x, 24, 0, 0, 0);
        for (int i = 0; i < 24; i++) {
            x.decide(i, 0, 0);
            stages(x, 23 - i, 1 + i, 0, 0);
        }
        for (int i = 0; i < 24; i++) {
            x.appeal(i);
            stages(x, 0, 23 - i, 1 + i, 0);
        }
        for (int i = 0; i < 24; i++) {
            x.judge(i, 0);
            stages(x, 0, 0, 23 - i, 1 + i);
        }
        EDGES.due("all", x.count(0), 24);
        EDGES.due("what all got", x.count(6), 24);
    }

    private static void stages(AmendsLedger x, int open, int decided, int appealed, int judged) {
        EDGES.due("open", x.count(1), open);
        EDGES.due("decided", x.count(2), decided);
        EDGES.due("under appeal", x.count(3), appealed);
        EDGES.due("judged", x.count(4), judged);
    }

    private static void promise20WaitAndDepart() {
        EDGES.promise(20, "7: complaints that wait; 8: complaints that depart");
        EDGES.due("all but one wait", Ledgers.waiting23().count(7), 23);
        EDGES.due("none of these departs", Ledgers.waiting23().count(8), 0);
        AmendsLedger x = Ledgers.offering(1, 2);
        Ledgers.complain(x, 24, 1);
        x.decide(0, 0, 0);
        for (int i = 1; i < 24; i++) {
            EDGES.due("departed", x.count(8), i - 1);
            x.decide(i, 1, 5);
        }
        EDGES.due("all but one depart", x.count(8), 23);
        EDGES.due("none of these waits", x.count(7), 0);
        AmendsLedger y = Ledgers.offering(1, 2);
        Ledgers.complain(y, 24, 1);
        y.decide(23, 0, 0);
        y.decide(0, 1, 1);
        EDGES.due("the first of all departs", y.count(8), 1);
    }

    private static void promise20Precedents() {
        EDGES.promise(20, "9: precedents that were set so far");
        AmendsLedger x = Ledgers.precedents24();
        EDGES.due("each complaint has set one", x.count(9), 24);
        for (int i = 0; i < 24; i++) {
            EDGES.due("it set it", x.complaint(i, 9), 1);
            EDGES.due("its month", x.complaint(i, 8), i / 12);
        }
        x.undo();
        EDGES.due("one less by undo", x.count(9), 23);
    }

    private static void promise20AlikeAndUnequal() {
        EDGES.promise(20, "10: pairs of complaints that are alike and unequal");
        EDGES.due("one against 23", Ledgers.waiting23().count(10), 23);
        EDGES.due("all equal", Ledgers.followers24().count(10), 0);
        for (int budget = 1; budget <= 24; budget++) {
            AmendsLedger x = Ledgers.withBudget(Ledgers.following(24, 0, 1), budget);
            x.appeal(0);
            x.judge(0, 1);
            EDGES.due(budget + " got one more", x.count(10), budget * (24 - budget));
        }
        AmendsLedger y = Ledgers.following(2, 1, 2);
        y.complain(0, 1, 0);
        y.complain(0, 1, 0);
        y.decide(2, 1, 1);
        EDGES.due("departing and open ones are not alike", y.count(10), 0);
        EDGES.due("nor those of several precedents", Ledgers.precedents24().count(10), 0);
        AmendsLedger z = Ledgers.following(2, 0, 5, 5);
        z.appeal(0);
        z.judge(0, 1);
        z.appeal(1);
        z.judge(1, 2);
        EDGES.due("two amends at one cost", z.count(10), 0);
    }

    private static void promise20SavedStates() {
        EDGES.promise(20, "11: saved states");
        AmendsLedger x = new AmendsLedger();
        for (int i = 0; i <= 8; i++) {
            EDGES.due("saved states", x.count(11), Math.min(6, i));
            x.complain(0, 1, 0);
        }
    }

    // ---- promise 21

    private static void promise21Setting() {
        EDGES.promise(21, "`setting`: 0 to 2");
        int[] first = {2, 1, 50};
        for (int i = 0; i <= 2; i++) {
            int setting = i;
            AmendsLedger x = new AmendsLedger();
            EDGES.allowed("setting " + setting, () -> x.setting(setting), first[setting]);
            EDGES.alike("nothing is changed", x, new AmendsLedger());
        }
        for (int setting : new int[] {Ledgers.FAR_BELOW, -1, 3, Ledgers.FAR_ABOVE}) {
            EDGES.index("setting " + setting, Ledgers::lived, x -> x.setting(setting));
        }
    }

    // ---- promise 22

    private static void promise22Customer() {
        EDGES.promise(22, "`customer`: 0 to 9");
        AmendsLedger x = new AmendsLedger();
        Ledgers.complain(x, 20, 1);
        for (int i = 0; i <= 9; i++) {
            int customer = i;
            EDGES.allowed("customer " + customer, () -> x.ofCustomer(customer, 0), customer);
            EDGES.allowed("the second", () -> x.ofCustomer(customer, 1), 10 + customer);
            EDGES.allowed("no third", () -> x.ofCustomer(customer, 2), -1);
        }
        for (int customer : new int[] {Ledgers.FAR_BELOW, -1, 10, Ledgers.FAR_ABOVE}) {
            EDGES.index("customer " + customer, Ledgers::lived, y -> y.ofCustomer(customer, 0));
        }
    }

    private static void promise22Place() {
        EDGES.promise(22, "if place is not 0 to 23");
        AmendsLedger x = Ledgers.precedents24();
        for (int i = 0; i <= 23; i++) {
            int place = i;
            EDGES.allowed("place " + place, () -> x.ofCustomer(9, place), place);
            EDGES.allowed("place " + place + " of none", () -> x.ofCustomer(0, place), -1);
        }
        EDGES.alike("nothing is changed", x, Ledgers.precedents24());
        for (int place : new int[] {Ledgers.FAR_BELOW, -1, 24, Ledgers.FAR_ABOVE}) {
            EDGES.argument("place " + place, Ledgers::lived, y -> y.ofCustomer(0, place));
            EDGES.argument("place " + place + " of 24", Ledgers::precedents24,
                    y -> y.ofCustomer(9, place));
        }
    }

    private static void promise22NotSoMany() {
        EDGES.promise(22, "NONE if there are not so many");
        AmendsLedger x = new AmendsLedger();
        for (int i = 0; i < 24; i++) {
            EDGES.due("behind the last of " + i, x.ofCustomer(4, i), -1);
            x.complain(0, 1, 4);
            EDGES.due("the last", x.ofCustomer(4, i), i);
        }
        EDGES.due("of another customer", x.ofCustomer(5, 0), -1);
        x.undo();
        EDGES.due("one less by undo", x.ofCustomer(4, 23), -1);
        x.complain(0, 1, 5);
        EDGES.due("another one's", x.ofCustomer(4, 23), -1);
        EDGES.due("the first of the other", x.ofCustomer(5, 0), 23);
    }

    private static void promise22FirstNamed() {
        EDGES.terms("22", FIRST_NAMED);
        EDGES.index("no customer, place 24", Ledgers::lived, x -> x.ofCustomer(10, 24));
        EDGES.index("no customer, place -1", Ledgers::lived, x -> x.ofCustomer(-1, -1));
    }
}
