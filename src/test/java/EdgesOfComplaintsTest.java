/** Boundary cases of the promises 6 to 8: complaints, decisions, precedents and appeals. */
public final class EdgesOfComplaintsTest {
    private static final String FIRST_NAMED =
            "the one that is named first in the throws clause is thrown";
    private static final String REASON = "if there is a reason against it";

    private static final Edges EDGES = new Edges("EdgesOfComplaintsTest");

    public static void main(String[] args) {
        promise6Kind();
        promise6Severity();
        promise6Customer();
        promise6ItsNumber();
        promise6TwentyFour();
        promise6OpenAtFirst();
        promise6FirstNamed();
        promise6Undoable();
        promise7Complaint();
        promise7Reason();
        promise7NotOpen();
        promise7NoSuchAmends();
        promise7Severity();
        promise7UnlikeThePrecedent();
        promise7MoreThanIsLeft();
        promise7AllOfTheBudget();
        promise7SetsFollowsOrDeparts();
        promise7ItsReason();
        promise7DearAlikeButAnother();
        promise7Classes();
        promise7MonthsThatItBinds();
        promise7SettingAsItIsNow();
        promise7AsLongAsOffered();
        promise7OneOfItsOwn();
        promise7FirstNamed();
        promise7Undoable();
        promise8Complaint();
        promise8HowManyThen();
        promise8NotDecided();
        promise8TooLate();
        promise8SettingAsItIsNow();
        promise8Undoable();
        EDGES.end();
    }

    // ---- promise 6

    private static void promise6Kind() {
        EDGES.promise(6, "`kind`: 0 to 3");
        for (int kind = 0; kind <= 3; kind++) {
            AmendsLedger x = new AmendsLedger();
            int told = kind;
            EDGES.allowed("kind " + kind, () -> x.complain(told, 5, 5), 0);
            EDGES.due("its kind", x.complaint(0, 0), kind);
        }
        for (int kind : new int[] {Ledgers.FAR_BELOW, -1, 4, Ledgers.FAR_ABOVE}) {
            EDGES.index("kind " + kind, Ledgers::lived, x -> x.complain(kind, 5, 5));
        }
    }

    private static void promise6Severity() {
        EDGES.promise(6, "`severity`: 1 to 9");
        for (int severity = 1; severity <= 9; severity++) {
            AmendsLedger x = new AmendsLedger();
            int told = severity;
            EDGES.allowed("severity " + severity, () -> x.complain(0, told, 5), 0);
            EDGES.due("its severity", x.complaint(0, 1), severity);
        }
        for (int severity : new int[] {Ledgers.FAR_BELOW, -1, 0, 10, Ledgers.FAR_ABOVE}) {
            EDGES.argument("severity " + severity, Ledgers::lived,
                    x -> x.complain(0, severity, 5));
        }
    }

    private static void promise6Customer() {
        EDGES.promise(6, "`customer`: 0 to 9");
        for (int customer = 0; customer <= 9; customer++) {
            AmendsLedger x = new AmendsLedger();
            int told = customer;
            EDGES.allowed("customer " + customer, () -> x.complain(0, 5, told), 0);
            EDGES.due("its customer", x.complaint(0, 2), customer);
        }
        for (int customer : new int[] {Ledgers.FAR_BELOW, -1, 10, Ledgers.FAR_ABOVE}) {
            EDGES.argument("customer " + customer, Ledgers::lived,
                    x -> x.complain(0, 5, customer));
        }
    }

    private static void promise6ItsNumber() {
        EDGES.promise(6, "Returns its number.");
        AmendsLedger x = new AmendsLedger();
        for (int i = 0; i < 24; i++) {
            int kind = i % 4;
            int severity = 1 + i % 9;
            int customer = i % 10;
            EDGES.allowed("the next", () -> x.complain(kind, severity, customer), i);
            EDGES.due("its kind", x.complaint(i, 0), kind);
            EDGES.due("its severity", x.complaint(i, 1), severity);
            EDGES.due("its customer", x.complaint(i, 2), customer);
        }
    }

    private static void promise6TwentyFour() {
        EDGES.promise(6, "if there are 24 complaints");
        AmendsLedger x = new AmendsLedger();
        Ledgers.complain(x, 23, 5);
        EDGES.allowed("the 24th", () -> x.complain(3, 9, 9), 23);
        for (int i = 0; i < 4; i++) {
            int kind = i;
            EDGES.state("the 25th", Ledgers::lived24, y -> y.complain(kind, 1, 0));
        }
        x.undo();
        EDGES.allowed("room again by undo", () -> x.complain(2, 8, 0), 23);
        EDGES.due("the new one", x.complaint(23, 2), 0);
    }

    private static void promise6OpenAtFirst() {
        EDGES.terms("6", "It is open (0) until it is decided");
        AmendsLedger x = Ledgers.following(1, 0, 5);
        x.complain(0, 1, 0);
        EDGES.due("open", x.complaint(1, 4), 0);
        EDGES.due("decided", x.complaint(0, 4), 1);
        x.appeal(0);
        EDGES.due("under appeal", x.complaint(0, 4), 2);
        x.judge(0, 1);
        EDGES.due("judged", x.complaint(0, 4), 3);
        x.closeMonth();
        EDGES.due("judged for good", x.complaint(0, 4), 3);
        EDGES.due("open for as long as it takes", x.complaint(1, 4), 0);
    }

    private static void promise6FirstNamed() {
        EDGES.terms("6", FIRST_NAMED);
        EDGES.index("no kind, severity 0", Ledgers::lived, x -> x.complain(4, 0, 5));
        EDGES.index("no kind, customer 10", Ledgers::lived, x -> x.complain(-1, 5, 10));
        EDGES.index("no kind, and 24", Ledgers::lived24, x -> x.complain(4, 5, 5));
        EDGES.argument("severity 10, and 24", Ledgers::lived24, x -> x.complain(0, 10, 5));
        EDGES.argument("customer -1, and 24", Ledgers::lived24, x -> x.complain(0, 5, -1));
    }

    private static void promise6Undoable() {
        EDGES.promise(6, "Undoable.");
        EDGES.undoable("complain", Ledgers::lived, x -> x.complain(3, 9, 9));
    }

    // ---- promise 7

    private static void promise7Complaint() {
        EDGES.promise(7, "if there is no such complaint");
        AmendsLedger x = Ledgers.offering(1);
        Ledgers.complain(x, 24, 1);
        EDGES.allowed("the first", () -> x.decide(0, 0, 0), 1);
        EDGES.allowed("the last", () -> x.decide(23, 0, 0), 2);
        for (int complaint : new int[] {Ledgers.FAR_BELOW, -1, 6, 24, Ledgers.FAR_ABOVE}) {
            EDGES.index("complaint " + complaint, Ledgers::lived, y -> y.decide(complaint, 4, 0));
        }
        EDGES.index("complaint 24", Ledgers::lived24, y -> y.decide(24, 4, 0));
    }

    private static void promise7Reason() {
        EDGES.promise(7, "`reason`: 0 to 5");
        for (int reason = 0; reason <= 5; reason++) {
            int told = reason;
            AmendsLedger x = Ledgers.toDecide();
            EDGES.allowed("reason " + reason, () -> x.decide(4, 2, told), 1);
        }
        for (int reason = 1; reason <= 5; reason++) {
            int told = reason;
            AmendsLedger x = Ledgers.toDecide();
            EDGES.allowed("departs, reason " + reason, () -> x.decide(1, 2, told), 3);
        }
        for (int reason : new int[] {Ledgers.FAR_BELOW, -1, 6, Ledgers.FAR_ABOVE}) {
            EDGES.argument("reason " + reason, Ledgers::toDecide, x -> x.decide(1, 0, reason));
            EDGES.argument("reason " + reason, Ledgers::lived, x -> x.decide(5, 4, reason));
        }
    }

    private static void promise7NotOpen() {
        EDGES.promise(7, REASON + ", 1 the complaint is not open");
        EDGES.state("decided, its own amends", Ledgers::toDecide, x -> x.decide(0, 0, 0));
        EDGES.state("decided, another one", Ledgers::toDecide, x -> x.decide(0, 1, 1));
        EDGES.state("departed", Ledgers::lived, x -> x.decide(3, 4, 1));
        EDGES.state("under appeal", Ledgers::lived, x -> x.decide(2, 4, 0));
        EDGES.state("judged", Ledgers::lived, x -> x.decide(1, 4, 0));
        AmendsLedger x = Ledgers.lived();
        EDGES.due("under appeal", x.whyNot(2, 4, 0), 1);
        EDGES.due("judged", x.whyNot(1, 4, 0), 1);
        EDGES.due("open", x.whyNot(5, 4, 0), 5);
    }

    private static void promise7NoSuchAmends() {
        EDGES.promise(7, REASON + ", 2 there is no such amends of its kind, or it is not offered");
        for (int amends : new int[] {Ledgers.FAR_BELOW, -1, 6, Ledgers.FAR_ABOVE}) {
            EDGES.state("amends " + amends, Ledgers::toDecide, x -> x.decide(4, amends, 0));
        }
        EDGES.state("behind the fifth", Ledgers::lived, x -> x.decide(5, 5, 1));
        EDGES.state("taken off", Ledgers::toDecide, x -> x.decide(1, 4, 1));
        EDGES.state("of another kind", EdgesOfComplaintsTest::ofKind3, x -> x.decide(0, 1, 0));
        AmendsLedger x = ofKind3();
        EDGES.allowed("of its kind", () -> x.decide(0, 0, 0), 1);
        EDGES.due("its cost", x.complaint(0, 6), 9);
        EDGES.due("spent of its kind", x.kind(3, 2), 9);
        EDGES.due("not of another one", x.kind(0, 2), 0);
    }

    /** The menu of kind 3 has one amends, that of kind 0 two. */
    private static AmendsLedger ofKind3() {
        AmendsLedger x = Ledgers.offering(5, 6);
        x.offer(3, 9, 1, 9);
        x.complain(3, 1, 0);
        return x;
    }

    private static void promise7Severity() {
        EDGES.promise(7, REASON + ", 3 its severity is not in the range of the amends");
        EDGES.state("3 of 4 to 6", Ledgers::toDecide, x -> x.decide(4, 0, 0));
        EDGES.state("7 of 4 to 6", Ledgers::toDecide, x -> x.decide(5, 0, 0));
        EDGES.state("4 of 5 to 5", Ledgers::toDecide, x -> x.decide(2, 1, 1));
        EDGES.state("6 of 5 to 5", Ledgers::toDecide, x -> x.decide(3, 1, 1));
        AmendsLedger x = Ledgers.toDecide();
        EDGES.allowed("4 of 4 to 6", () -> x.decide(2, 0, 0), 2);
        EDGES.allowed("6 of 4 to 6", () -> x.decide(3, 0, 0), 2);
        EDGES.allowed("5 of 5 to 5", () -> x.decide(1, 1, 1), 3);
        for (int i = 1; i <= 9; i++) {
            AmendsLedger y = new AmendsLedger();
            y.offer(0, 5, i, i);
            for (int severity = 1; severity <= 9; severity++) {
                y.complain(0, severity, 0);
                EDGES.due(severity + " of " + i, y.whyNot(severity - 1, 0, 0),
                        severity == i ? 0 : 3);
            }
        }
    }

    private static void promise7UnlikeThePrecedent() {
        EDGES.promise(7, REASON + ", 4 a precedent binds, the amends is another one, and the"
                + " reason told is 0");
        EDGES.state("another one, reason 0", Ledgers::toDecide, x -> x.decide(1, 1, 0));
        AmendsLedger x = Ledgers.toDecide();
        EDGES.allowed("another one, reason 1", () -> x.decide(1, 1, 1), 3);
        x.undo();
        EDGES.allowed("that of the precedent, reason 0", () -> x.decide(1, 0, 0), 2);
        AmendsLedger y = Ledgers.toDecide();
        EDGES.allowed("none binds, reason 0", () -> y.decide(4, 2, 0), 1);
    }

    private static void promise7MoreThanIsLeft() {
        EDGES.promise(7, REASON + ", 5 what is to be spent is more than what is left");
        EDGES.state("401 of 400", Ledgers::toDecide, x -> x.decide(4, 3, 0));
        EDGES.state("999 of 400", Ledgers::toDecide, x -> x.decide(6, 5, 0));
        AmendsLedger x = Ledgers.toDecide();
        EDGES.allowed("400 of 400", () -> x.decide(4, 2, 0), 1);
        EDGES.due("left", x.kind(0, 3), 0);
        EDGES.due("100 of nothing", x.whyNot(1, 0, 0), 5);
        x.offer(3, 0, 1, 9);
        x.complain(3, 1, 0);
        EDGES.allowed("another kind's budget", () -> x.decide(7, 0, 0), 1);
    }

    private static void promise7AllOfTheBudget() {
        EDGES.terms("7", "what was spent of the budget in this month is at most the budget");
        AmendsLedger x = Ledgers.offering(500, 0, 1);
        Ledgers.complain(x, 3, 1);
        EDGES.allowed("500 of 500", () -> x.decide(0, 0, 0), 1);
        EDGES.due("spent", x.kind(0, 2), 500);
        EDGES.due("left", x.kind(0, 3), 0);
        EDGES.allowed("0 of nothing", () -> x.decide(1, 1, 1), 3);
        EDGES.due("1 of nothing", x.whyNot(2, 2, 1), 5);
        AmendsLedger y = Ledgers.withBudget(Ledgers.offering(999), 999);
        y.complain(0, 1, 0);
        EDGES.allowed("999 of 999", () -> y.decide(0, 0, 0), 1);
        EDGES.due("spent", y.kind(0, 2), 999);
        EDGES.due("got", y.complaint(0, 6), 999);
        EDGES.state("999 of 998", EdgesOfComplaintsTest::with998, z -> z.decide(0, 0, 0));
    }

    private static AmendsLedger with998() {
        AmendsLedger x = Ledgers.withBudget(Ledgers.offering(999), 998);
        x.complain(0, 1, 0);
        return x;
    }

    private static void promise7SetsFollowsOrDeparts() {
        EDGES.promise(7, "1 if a precedent is set by it, 2 if it follows one, 3 if it departs");
        AmendsLedger x = Ledgers.offering(1, 2);
        Ledgers.complain(x, 24, 1);
        EDGES.allowed("the first", () -> x.decide(23, 1, 1), 1);
        EDGES.due("it set it", x.complaint(23, 9), 1);
        EDGES.allowed("alike", () -> x.decide(0, 1, 1), 2);
        EDGES.due("another one set it", x.complaint(0, 9), 2);
        EDGES.allowed("unlike", () -> x.decide(1, 0, 1), 3);
        EDGES.due("departs", x.complaint(1, 9), 3);
        EDGES.due("not open ones alone", x.complaint(2, 9), 0);
        EDGES.due("one precedent", x.count(9), 1);
    }

    private static void promise7ItsReason() {
        EDGES.terms("7", "its reason is 0, whatever was told .. Otherwise it departs from it, and"
                + " keeps its reason");
        for (int reason = 1; reason <= 5; reason++) {
            AmendsLedger x = Ledgers.offering(1, 2);
            Ledgers.complain(x, 3, 1);
            EDGES.due("open", x.complaint(0, 7), -1);
            x.decide(0, 0, reason);
            x.decide(1, 0, reason);
            x.decide(2, 1, reason);
            EDGES.due("sets one", x.complaint(0, 7), 0);
            EDGES.due("follows it", x.complaint(1, 7), 0);
            EDGES.due("departs", x.complaint(2, 7), reason);
        }
    }

    private static void promise7DearAlikeButAnother() {
        EDGES.terms("7", "the amends is that of the precedent");
        AmendsLedger x = Ledgers.offering(5, 5);
        Ledgers.complain(x, 3, 1);
        x.decide(0, 0, 0);
        EDGES.due("another one at the same cost", x.whyNot(1, 1, 0), 4);
        EDGES.allowed("departs", () -> x.decide(1, 1, 1), 3);
        EDGES.due("it does not wait", x.complaint(1, 10), 0);
    }

    private static void promise7Classes() {
        EDGES.terms("7", "Its class is 0 for a severity of 1 to 3, 1 for 4 to 6, and 2 for 7 to 9");
        for (int first = 1; first <= 9; first++) {
            AmendsLedger x = Ledgers.offering(1);
            x.complain(0, first, 0);
            EDGES.due("class of " + first, x.complaint(0, 3), first <= 3 ? 0 : first <= 6 ? 1 : 2);
            x.decide(0, 0, 0);
            for (int severity = 1; severity <= 9; severity++) {
                int number = severity;
                boolean alike = x.complaint(0, 3) == (severity <= 3 ? 0 : severity <= 6 ? 1 : 2);
                x.complain(0, severity, 0);
                EDGES.allowed(severity + " after " + first, () -> x.decide(number, 0, 0),
                        alike ? 2 : 1);
                x.undo();
            }
            x.offer(1, 1, 1, 9);
            x.complain(1, first, 0);
            EDGES.allowed("another kind", () -> x.decide(10, 0, 0), 1);
        }
    }

    private static void promise7MonthsThatItBinds() {
        EDGES.terms("7", "in the month in which it was set and in the next ones, setting 0 months"
                + " together");
        for (int months = 1; months <= 6; months++) {
            for (int start = 0; start <= 5; start += 5) {
                AmendsLedger x = Ledgers.later(Ledgers.offering(1, 2), start);
                Ledgers.complain(x, 2, 1);
                x.set(0, months);
                x.decide(0, 0, 0);
                EDGES.due("in its month", x.precedent(0, 0, 3), 1);
                Ledgers.later(x, months - 1);
                EDGES.due("in the last month", x.precedent(0, 0, 3), 1);
                EDGES.due("unlike", x.whyNot(1, 1, 0), 4);
                EDGES.allowed("alike", () -> x.decide(1, 0, 0), 2);
                x.undo();
                x.closeMonth();
                EDGES.due("in the month behind", x.precedent(0, 0, 3), 0);
                EDGES.due("unlike then", x.whyNot(1, 1, 0), 0);
                EDGES.allowed("alike then", () -> x.decide(1, 0, 0), 1);
                EDGES.due("in place of the earlier one", x.precedent(0, 0, 2), 1);
            }
        }
    }

    private static void promise7SettingAsItIsNow() {
        EDGES.terms("7", "setting 0 (as it is now)");
        AmendsLedger x = Ledgers.later(Ledgers.following(1, 1, 2), 3);
        for (int months = 1; months <= 6; months++) {
            x.set(0, months);
            EDGES.due("three months later, setting " + months, x.precedent(0, 0, 3),
                    months >= 4 ? 1 : 0);
        }
    }

    private static void promise7AsLongAsOffered() {
        EDGES.terms("7", "as long as its amends is offered");
        AmendsLedger x = Ledgers.following(1, 1, 2);
        Ledgers.complain(x, 2, 1);
        x.takeOff(0, 1);
        EDGES.due("another one is taken off", x.precedent(0, 0, 3), 1);
        x.undo();
        x.takeOff(0, 0);
        EDGES.due("its own is taken off", x.precedent(0, 0, 3), 0);
        EDGES.allowed("sets another one", () -> x.decide(1, 1, 0), 1);
        EDGES.due("which binds", x.precedent(0, 0, 3), 1);
        x.undo();
        x.undo();
        EDGES.due("offered again by undo", x.precedent(0, 0, 3), 1);
        EDGES.due("the earlier one", x.precedent(0, 0, 2), 0);
    }

    private static void promise7OneOfItsOwn() {
        EDGES.terms("7", "complaints that followed it go on to follow it, not the other one");
        AmendsLedger x = Ledgers.later(Ledgers.following(3, 1, 2), 2);
        Ledgers.complain(x, 2, 1);
        EDGES.allowed("another one", () -> x.decide(3, 1, 0), 1);
        EDGES.allowed("follows that", () -> x.decide(4, 1, 0), 2);
        EDGES.due("followers of the latest", x.precedent(0, 0, 4), 2);
        EDGES.due("the earlier one's setter", x.complaint(0, 9), 1);
        EDGES.due("its follower", x.complaint(2, 9), 2);
        EDGES.due("nobody waits for the latest", x.count(7), 0);
        EDGES.due("nobody is alike and unequal", x.count(10), 0);
        EDGES.due("precedents", x.count(9), 2);
    }

    private static void promise7FirstNamed() {
        EDGES.terms("7", FIRST_NAMED);
        EDGES.index("no complaint, reason 6", Ledgers::lived, x -> x.decide(6, 4, 6));
        EDGES.index("no complaint, reason -1", Ledgers::lived, x -> x.decide(-1, 4, -1));
        EDGES.index("no complaint, no amends", Ledgers::lived, x -> x.decide(6, -1, 0));
        EDGES.argument("decided, reason 6", Ledgers::lived, x -> x.decide(0, 4, 6));
        EDGES.argument("no amends, reason -1", Ledgers::lived, x -> x.decide(5, -1, -1));
        EDGES.argument("too dear, reason 6", Ledgers::lived, x -> x.decide(5, 3, 6));
    }

    private static void promise7Undoable() {
        EDGES.promise(7, "Undoable.");
        EDGES.undoable("sets one", Ledgers::toDecide, x -> x.decide(4, 2, 0));
        EDGES.undoable("follows one", Ledgers::toDecide, x -> x.decide(1, 0, 0));
        EDGES.undoable("departs", Ledgers::toDecide, x -> x.decide(1, 1, 5));
        EDGES.undoable("in place of an earlier one", EdgesOfComplaintsTest::bindsNoMore,
                x -> x.decide(1, 1, 0));
    }

    private static AmendsLedger bindsNoMore() {
        AmendsLedger x = Ledgers.later(Ledgers.following(1, 1, 2), 2);
        x.complain(0, 1, 0);
        return x;
    }

    // ---- promise 8

    private static void promise8Complaint() {
        EDGES.promise(8, "if there is no such complaint");
        AmendsLedger x = Ledgers.following(24, 1);
        EDGES.allowed("the first", () -> x.appeal(0), 1);
        EDGES.allowed("the last", () -> x.appeal(23), 2);
        for (int complaint : new int[] {Ledgers.FAR_BELOW, -1, 6, 24, Ledgers.FAR_ABOVE}) {
            EDGES.index("complaint " + complaint, Ledgers::lived, y -> y.appeal(complaint));
        }
        EDGES.index("complaint 24", Ledgers::lived24, y -> y.appeal(24));
    }

    private static void promise8HowManyThen() {
        EDGES.promise(8, "Returns how many complaints are under appeal then.");
        AmendsLedger x = Ledgers.following(24, 1);
        for (int i = 0; i < 24; i++) {
            int told = i;
            EDGES.allowed("appeal", () -> x.appeal(told), i + 1);
        }
        x.judge(7, 0);
        EDGES.due("one is judged", x.count(3), 23);
    }

    private static void promise8NotDecided() {
        EDGES.promise(8, "if it is not decided (1)");
        EDGES.state("open", Ledgers::toJudge, x -> x.appeal(1));
        EDGES.state("under appeal", Ledgers::toJudge, x -> x.appeal(0));
        EDGES.state("judged", Ledgers::toJudge, x -> x.appeal(3));
        AmendsLedger x = Ledgers.toJudge();
        EDGES.allowed("decided", () -> x.appeal(2), 2);
        x.undo();
        EDGES.allowed("decided again by undo", () -> x.appeal(2), 2);
        AmendsLedger y = Ledgers.toDecide();
        y.decide(1, 1, 1);
        EDGES.allowed("one that departs", () -> y.appeal(1), 1);
    }

    private static void promise8TooLate() {
        EDGES.promise(8, "or it is too late");
        for (int i = 0; i <= 3; i++) {
            int months = i;
            AmendsLedger x = appealable(months, months);
            EDGES.allowed("in the last month, " + months, () -> x.appeal(0), 1);
            EDGES.state("in the month behind, " + months, () -> appealable(months, months + 1),
                    y -> y.appeal(0));
            AmendsLedger z = appealable(months, 0);
            EDGES.allowed("in its own month", () -> z.appeal(0), 1);
        }
    }

    /** Decided in the month 2; then so many months are closed. */
    private static AmendsLedger appealable(int setting, int months) {
        AmendsLedger x = Ledgers.later(Ledgers.offering(1), 2);
        x.complain(0, 1, 0);
        x.set(1, setting);
        x.decide(0, 0, 0);
        return Ledgers.later(x, months);
    }

    private static void promise8SettingAsItIsNow() {
        EDGES.terms("8", "plus setting 1 (as it is now)");
        AmendsLedger x = appealable(3, 2);
        for (int setting = 0; setting <= 3; setting++) {
            x.set(1, setting);
            String call = "two months later, setting " + setting;
            if (setting >= 2) {
                EDGES.allowed(call, () -> x.appeal(0), 1);
                x.undo();
            } else {
                EDGES.state(call, () -> x.appeal(0));
            }
        }
    }

    private static void promise8Undoable() {
        EDGES.promise(8, "Undoable.");
        EDGES.undoable("appeal", Ledgers::toJudge, x -> x.appeal(2));
    }
}
