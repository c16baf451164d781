/** Boundary cases of the promises 9 and 10: judgements, top-ups and the month's end. */
public final class EdgesOfJudgementsTest {
    private static final String REASON = "if there is a reason against it";
    private static final String AT_ONCE = "Returns how many other complaints get a top-up at once.";

    private static final Edges EDGES = new Edges("EdgesOfJudgementsTest");

    public static void main(String[] args) {
        promise9Complaint();
        promise9NotUnderAppeal();
        promise9NoSuchAmends();
        promise9Severity();
        promise9CostsLess();
        promise9MoreThanIsLeft();
        promise9FirstNamed();
        promise9TheDifferenceIsSpent();
        promise9Departs();
        promise9AsDearAsThePrecedent();
        promise9CheaperThanThePrecedent();
        promise9DearerByOne();
        promise9ItsMonthStays();
        promise9RaisedWhenItBindsNoMore();
        promise9BindsByTheAmendsItHas();
        promise9BindsAgain();
        promise9NoneToAll();
        promise9AscendingAsFarAsItGoes();
        promise9WhateverTheStage();
        promise9WhateverTheSeverity();
        promise9Waits();
        promise9EarlierPrecedent();
        promise9Undoable();
        promise10Month500();
        promise10OneMore();
        promise10CarriedOver();
        promise10NothingIsSpent();
        promise10TheMoney();
        promise10AtMostWhatIsLeft();
        promise10AscendingNumbers();
        promise10GotAsMuch();
        promise10KindsApart();
        promise10Likewise();
        promise10Undoable();
        EDGES.end();
    }

    // ---- promise 9

    private static void promise9Complaint() {
        EDGES.promise(9, "if there is no such complaint");
        AmendsLedger x = Ledgers.following(24, 1);
        x.appeal(0);
        x.appeal(23);
        EDGES.allowed("the first", () -> x.judge(0, 0), 0);
        EDGES.allowed("the last", () -> x.judge(23, 0), 0);
        for (int complaint : new int[] {Ledgers.FAR_BELOW, -1, 4, 24, Ledgers.FAR_ABOVE}) {
            EDGES.index("complaint " + complaint, Ledgers::toJudge, y -> y.judge(complaint, 0));
        }
        EDGES.index("complaint 24", Ledgers::lived24, y -> y.judge(24, 0));
    }

    private static void promise9NotUnderAppeal() {
        EDGES.promise(9, REASON + ", 1 the complaint is not under appeal");
        for (int amends : new int[] {0, 2}) {
            EDGES.state("open", Ledgers::toJudge, x -> x.judge(1, amends));
            EDGES.state("decided", Ledgers::toJudge, x -> x.judge(2, amends));
            EDGES.state("judged", Ledgers::toJudge, x -> x.judge(3, amends));
        }
        AmendsLedger x = Ledgers.toJudge();
        EDGES.allowed("under appeal", () -> x.judge(0, 0), 0);
        x.undo();
        EDGES.allowed("under appeal again by undo", () -> x.judge(0, 0), 0);
    }

    private static void promise9NoSuchAmends() {
        EDGES.promise(9, REASON + ", 2 there is no such amends of its kind, or it is not offered");
        for (int amends : new int[] {Ledgers.FAR_BELOW, -1, 6, Ledgers.FAR_ABOVE}) {
            EDGES.state("amends " + amends, Ledgers::toJudge, x -> x.judge(0, amends));
        }
        EDGES.state("behind the last of two", EdgesOfJudgementsTest::appealedOfTwo,
                x -> x.judge(0, 2));
        AmendsLedger x = appealedOfTwo();
        EDGES.allowed("the last of two", () -> x.judge(0, 1), 0);
        for (int amends = 0; amends < 6; amends++) {
            int told = amends;
            EDGES.state("taken off", () -> Ledgers.toJudgeWithout(told), y -> y.judge(0, told));
        }
    }

    private static AmendsLedger appealedOfTwo() {
        AmendsLedger x = Ledgers.following(1, 10, 20);
        x.offer(1, 1, 1, 9);
        x.offer(1, 1, 1, 9);
        x.offer(1, 500, 1, 9);
        x.appeal(0);
        return x;
    }

    private static void promise9Severity() {
        EDGES.promise(9, REASON + ", 3 its severity is not in the range of the amends");
        EDGES.state("5 of 6 to 9", Ledgers::toJudge, x -> x.judge(0, 4));
        EDGES.state("5 of 1 to 4", Ledgers::toJudge, x -> x.judge(0, 5));
        AmendsLedger x = Ledgers.toJudge();
        EDGES.allowed("5 of 5 to 5", () -> x.judge(0, 2), 0);
        for (int severity = 4; severity <= 6; severity++) {
            AmendsLedger y = Ledgers.offering(0);
            y.offer(0, 0, 5, 9);
            y.offer(0, 0, 1, 5);
            y.complain(0, severity, 0);
            y.decide(0, 0, 0);
            y.appeal(0);
            EDGES.due(severity + " of 5 to 9", y.whyNot(0, 1, -1), severity < 5 ? 3 : 0);
            EDGES.due(severity + " of 1 to 5", y.whyNot(0, 2, -1), severity > 5 ? 3 : 0);
        }
    }

    private static void promise9CostsLess() {
        EDGES.promise(9, REASON + ", 4 the amends costs less than the one that the complaint has");
        EDGES.state("99 after 100", Ledgers::toJudge, x -> x.judge(0, 1));
        AmendsLedger x = Ledgers.toJudge();
        EDGES.allowed("100 after 100", () -> x.judge(0, 0), 0);
        AmendsLedger y = Ledgers.following(1, 100, 100, 0);
        y.appeal(0);
        EDGES.allowed("another one for 100", () -> y.judge(0, 1), 0);
        EDGES.due("the complaint has it", y.complaint(0, 5), 1);
        EDGES.due("the precedent has the other", y.precedent(0, 0, 0), 0);
    }

    private static void promise9MoreThanIsLeft() {
        EDGES.promise(9, REASON + ", 5 what is to be spent is more than what is left");
        EDGES.state("201 of 200", Ledgers::toJudge, x -> x.judge(0, 3));
        AmendsLedger x = Ledgers.toJudge();
        EDGES.allowed("200 of 200", () -> x.judge(0, 2), 0);
        EDGES.due("left", x.kind(0, 3), 0);
        AmendsLedger y = Ledgers.withBudget(Ledgers.following(2, 250, 251), 0);
        y.appeal(0);
        EDGES.allowed("nothing of nothing", () -> y.judge(0, 0), 0);
        y.appeal(1);
        EDGES.due("1 of nothing", y.whyNot(1, 1, -1), 5);
    }

    private static void promise9FirstNamed() {
        EDGES.terms("9", "the one that is named first in the throws clause is thrown");
        EDGES.index("no complaint, no amends", Ledgers::toJudge, x -> x.judge(4, -1));
        EDGES.index("no complaint, too dear", Ledgers::toJudge, x -> x.judge(-1, 3));
        EDGES.state("open, no amends", Ledgers::toJudge, x -> x.judge(1, -1));
    }

    private static void promise9TheDifferenceIsSpent() {
        EDGES.terms("9", "the difference is spent, and the complaint has this amends");
        AmendsLedger x = Ledgers.toJudge();
        x.judge(0, 2);
        EDGES.due("spent", x.kind(0, 2), 500);
        EDGES.due("got", x.complaint(0, 6), 300);
        EDGES.due("amends", x.complaint(0, 5), 2);
        AmendsLedger y = Ledgers.toJudge();
        y.judge(0, 0);
        EDGES.due("nothing is spent for the same", y.kind(0, 2), 300);
        EDGES.due("judged all the same", y.complaint(0, 4), 3);
    }

    private static void promise9Departs() {
        EDGES.terms("9", "If it departs .. that is all");
        AmendsLedger x = Ledgers.following(3, 0, 1, 2);
        x.complain(0, 1, 0);
        x.decide(3, 1, 5);
        x.appeal(3);
        EDGES.allowed("dearer than the precedent", () -> x.judge(3, 2), 0);
        EDGES.due("the precedent's amends", x.precedent(0, 0, 0), 0);
        EDGES.due("nobody waits", x.count(7), 0);
        EDGES.due("it departs still", x.complaint(3, 9), 3);
        EDGES.due("its reason", x.complaint(3, 7), 5);
        EDGES.due("followers", x.precedent(0, 0, 4), 3);
    }

    private static void promise9AsDearAsThePrecedent() {
        EDGES.terms("9", "the amends does not cost more than that of the precedent .. that is all");
        AmendsLedger x = Ledgers.raisedOnce(130);
        EDGES.allowed("another one for 130", () -> x.judge(0, 2), 0);
        EDGES.due("the precedent's amends", x.precedent(0, 0, 0), 1);
        EDGES.due("the complaint's", x.complaint(0, 5), 2);
        EDGES.due("waits still", x.complaint(2, 10), 30);
        EDGES.due("left", x.kind(0, 3), 10);
    }

    private static void promise9CheaperThanThePrecedent() {
        EDGES.terms("9", "the amends does not cost more than that of the precedent .. that is all");
        AmendsLedger x = Ledgers.raisedOnce(110);
        x.appeal(2);
        EDGES.allowed("110 where the precedent has 130", () -> x.judge(2, 2), 0);
        EDGES.due("the precedent's amends", x.precedent(0, 0, 0), 1);
        EDGES.due("got", x.complaint(2, 6), 110);
        EDGES.due("judged", x.complaint(2, 4), 3);
        EDGES.due("waits for the rest", x.complaint(2, 10), 20);
        EDGES.due("left", x.kind(0, 3), 0);
    }

    private static void promise9DearerByOne() {
        EDGES.terms("9", "Otherwise this precedent has this amends from then on");
        AmendsLedger x = Ledgers.raisedOnce(131);
        EDGES.allowed("131 where the precedent has 130", () -> x.judge(0, 2), 2);
        EDGES.due("the precedent's amends", x.precedent(0, 0, 0), 2);
        EDGES.due("got", x.complaint(0, 6), 131);
        EDGES.due("the second, too", x.complaint(1, 6), 131);
        EDGES.due("the second's amends", x.complaint(1, 5), 2);
        EDGES.due("waits for one more", x.complaint(2, 10), 31);
        EDGES.due("the judged one, too", x.complaint(3, 6), 131);
        EDGES.due("left", x.kind(0, 3), 7);
        x.complain(0, 1, 0);
        EDGES.due("it binds with this amends", x.whyNot(4, 0, 0), 4);
        EDGES.due("and this alone", x.whyNot(4, 2, 0), 5);
    }

    private static void promise9ItsMonthStays() {
        EDGES.terms("9", "the month in which it was set stays");
        AmendsLedger x = Ledgers.later(Ledgers.following(2, 1, 2), 1);
        x.complain(0, 1, 0);
        x.appeal(1);
        EDGES.allowed("judged in its last month", () -> x.judge(1, 1), 1);
        EDGES.due("the month in which it was set", x.precedent(0, 0, 1), 0);
        EDGES.due("the complaint that set it", x.precedent(0, 0, 2), 0);
        EDGES.due("binds", x.precedent(0, 0, 3), 1);
        EDGES.due("not with its earlier amends", x.whyNot(2, 0, 0), 4);
        EDGES.allowed("a decision follows it", () -> x.decide(2, 1, 0), 2);
        x.closeMonth();
        EDGES.due("binds no more", x.precedent(0, 0, 3), 0);
        EDGES.due("the months of the decisions", x.complaint(1, 8), 0);
    }

    private static void promise9RaisedWhenItBindsNoMore() {
        EDGES.terms("9", "than that of the precedent that it follows");
        AmendsLedger x = Ledgers.following(2, 1, 2);
        x.set(1, 3);
        Ledgers.later(x, 3);
        x.appeal(1);
        EDGES.due("binds no more", x.precedent(0, 0, 3), 0);
        EDGES.allowed("raised all the same", () -> x.judge(1, 1), 1);
        EDGES.due("the precedent's amends", x.precedent(0, 0, 0), 1);
        EDGES.due("the setter got a top-up", x.complaint(0, 6), 2);
    }

    private static void promise9BindsByTheAmendsItHas() {
        EDGES.terms("9", "this precedent has this amends from then on .. binds .. as long as its"
                + " amends is offered");
        AmendsLedger x = Ledgers.following(2, 1, 2);
        Ledgers.complain(x, 2, 1);
        x.appeal(1);
        x.judge(1, 1);
        x.takeOff(0, 0);
        EDGES.due("its earlier amends is taken off", x.precedent(0, 0, 3), 1);
        EDGES.allowed("a decision follows it", () -> x.decide(2, 1, 0), 2);
        x.undo();
        x.undo();
        x.takeOff(0, 1);
        EDGES.due("its amends is taken off", x.precedent(0, 0, 3), 0);
        EDGES.due("its amends stays", x.precedent(0, 0, 0), 1);
        EDGES.allowed("its earlier amends sets another one", () -> x.decide(2, 0, 0), 1);
        EDGES.due("nobody waits for that", x.count(7), 0);
    }

    private static void promise9BindsAgain() {
        EDGES.terms("9", "this precedent has this amends from then on .. binds .. setting 0 months"
                + " together, as long as its amends is offered");
        for (int months = 0; months <= 2; months++) {
            AmendsLedger x = Ledgers.following(2, 1, 2, 3);
            Ledgers.complain(x, 1, 1);
            x.set(1, 3);
            x.appeal(1);
            Ledgers.later(x, months);
            x.takeOff(0, 0);
            EDGES.due("taken off, month " + months, x.precedent(0, 0, 3), 0);
            EDGES.due("none binds, month " + months, x.whyNot(2, 2, 0), 0);
            EDGES.allowed("raised, month " + months, () -> x.judge(1, 1), 1);
            EDGES.due("offered again, month " + months, x.precedent(0, 0, 3), months < 2 ? 1 : 0);
            EDGES.due("another one, month " + months, x.whyNot(2, 2, 0), months < 2 ? 4 : 0);
            EDGES.allowed("the same one, month " + months, () -> x.decide(2, 1, 0),
                    months < 2 ? 2 : 1);
        }
    }

    private static void promise9NoneToAll() {
        EDGES.promise(9, AT_ONCE);
        for (int i = 1; i <= 24; i++) {
            int budget = i;
            AmendsLedger x = Ledgers.withBudget(Ledgers.following(24, 0, 1), budget);
            x.appeal(23);
            EDGES.allowed("a budget of " + budget, () -> x.judge(23, 1), budget - 1);
            EDGES.due("those that wait", x.count(7), 24 - budget);
            EDGES.due("what is left", x.kind(0, 3), 0);
        }
        AmendsLedger alone = Ledgers.following(1, 0, 1);
        alone.appeal(0);
        EDGES.allowed("one alone", () -> alone.judge(0, 1), 0);
    }

    private static void promise9AscendingAsFarAsItGoes() {
        EDGES.terms("9", "by ascending numbers: each one whose difference is at most what is left"
                + " of the budget gets it at once");
        int[][] due = {
            {131, 2, 7, 131, 131}, {133, 2, 1, 133, 133}, {134, 1, 2, 134, 130},
            {135, 1, 0, 135, 130}, {136, 0, 4, 130, 130}, {140, 0, 0, 130, 130}};
        for (int[] row : due) {
            AmendsLedger x = Ledgers.raisedOnce(row[0]);
            EDGES.allowed("raised to " + row[0], () -> x.judge(0, 2), row[1]);
            EDGES.due("left after " + row[0], x.kind(0, 3), row[2]);
            EDGES.due("the lower number of " + row[0], x.complaint(1, 6), row[3]);
            EDGES.due("the higher number of " + row[0], x.complaint(3, 6), row[4]);
            EDGES.due("one whose difference is too much", x.complaint(2, 6), 100);
            EDGES.due("what is waited for", x.kind(0, 7), 4 * row[0] - x.kind(0, 6));
        }
        EDGES.state("raised to 141", () -> Ledgers.raisedOnce(141), x -> x.judge(0, 2));
    }

    private static void promise9WhateverTheStage() {
        EDGES.terms("9", "the complaints that wait for it then, whatever their stage");
        AmendsLedger x = Ledgers.following(5, 1, 2);
        Ledgers.complain(x, 2, 1);
        x.decide(5, 1, 1);
        for (int i = 1; i <= 3; i++) {
            x.appeal(i);
        }
        x.judge(1, 0);
        EDGES.allowed("decided, judged, under appeal and decided", () -> x.judge(2, 1), 4);
        int[] stages = {1, 3, 3, 2, 1, 1, 0};
        for (int i = 0; i < 7; i++) {
            EDGES.due("the stage stays", x.complaint(i, 4), stages[i]);
            EDGES.due("got", x.complaint(i, 6), i == 6 ? 0 : 2);
        }
        EDGES.allowed("judged after its top-up", () -> x.judge(3, 1), 0);
    }

    /** The range of an amends counts for decisions and judgements alone. */
    private static void promise9WhateverTheSeverity() {
        EDGES.terms("9", "each one whose difference is at most what is left of the budget gets it");
        AmendsLedger x = Ledgers.offering(0);
        x.offer(0, 300, 2, 2);
        for (int severity = 1; severity <= 3; severity++) {
            x.complain(0, severity, 0);
            x.decide(severity - 1, 0, 0);
        }
        x.appeal(1);
        Ledgers.withBudget(x, 600);
        EDGES.allowed("severity 1 of 2 to 2", () -> x.judge(1, 1), 1);
        EDGES.due("got", x.complaint(0, 6), 300);
        EDGES.due("waits", x.complaint(2, 10), 300);
        EDGES.allowed("severity 3 of 2 to 2", x::closeMonth, 300);
        EDGES.due("its amends", x.complaint(2, 5), 1);
    }

    private static void promise9Waits() {
        EDGES.terms("9", "A complaint waits if it follows a precedent, and has got less than the"
                + " amends of that costs");
        AmendsLedger x = Ledgers.waitingFor(1);
        EDGES.due("got as much", x.complaint(0, 10), 0);
        EDGES.due("got less by 1", x.complaint(1, 10), 1);
        x.complain(0, 1, 0);
        EDGES.due("an open one", x.complaint(2, 10), 0);
        x.decide(2, 0, 1);
        EDGES.due("one that departs", x.complaint(2, 10), 0);
        EDGES.due("those that wait", x.count(7), 1);
    }

    private static void promise9EarlierPrecedent() {
        EDGES.terms("9", "complaints that followed it go on to follow it, not the other one");
        AmendsLedger x = Ledgers.following(2, 1, 2, 3);
        x.set(1, 3);
        Ledgers.later(x, 2);
        Ledgers.complain(x, 2, 1);
        x.decide(2, 0, 0);
        x.decide(3, 0, 0);
        x.appeal(1);
        EDGES.allowed("the earlier one is raised", () -> x.judge(1, 2), 1);
        EDGES.due("its setter", x.complaint(0, 6), 3);
        EDGES.due("the other one's setter", x.complaint(2, 6), 1);
        EDGES.due("the other one's amends", x.precedent(0, 0, 0), 0);
        x.appeal(3);
        EDGES.allowed("the latest one is raised", () -> x.judge(3, 1), 1);
        EDGES.due("the earlier one's setter keeps its own", x.complaint(0, 6), 3);
        EDGES.due("pairs alike and unequal", x.count(10), 0);
    }

    private static void promise9Undoable() {
        EDGES.promise(9, "Undoable.");
        EDGES.undoable("at no cost", Ledgers::toJudge, x -> x.judge(0, 0));
        EDGES.undoable("all that is left", Ledgers::toJudge, x -> x.judge(0, 2));
        EDGES.undoable("with top-ups", () -> Ledgers.raisedOnce(133), x -> x.judge(0, 2));
        EDGES.undoable("of an earlier precedent", EdgesOfJudgementsTest::earlier,
                x -> x.judge(0, 1));
    }

    private static AmendsLedger earlier() {
        AmendsLedger x = Ledgers.following(2, 1, 2);
        x.appeal(0);
        Ledgers.later(x, 2);
        x.complain(0, 1, 0);
        x.decide(2, 0, 0);
        return x;
    }

    // ---- promise 10

    /** Few calls are left to a ledger that has come so far. */
    private static void promise10Month500() {
        EDGES.promise(10, "if the number of the month is 500");
        AmendsLedger x = Ledgers.later(new AmendsLedger(), 499);
        EDGES.due("the month", x.count(5), 499);
        EDGES.allowed("the 500th", x::closeMonth, 0);
        EDGES.due("the month", x.count(5), 500);
        long before = x.digest();
        EDGES.state("the 501st", x::closeMonth);
        EDGES.due("nothing is changed", x.digest(), before);
        EDGES.allowed("undo", x::undo, 5);
        EDGES.due("the month", x.count(5), 499);
        EDGES.allowed("the 500th again", x::closeMonth, 0);
        EDGES.state("the 501st again", x::closeMonth);
        EDGES.due("saved states", x.count(11), 6);
    }

    private static void promise10OneMore() {
        EDGES.terms("10", "When a month is closed, its number becomes 1 more");
        AmendsLedger x = new AmendsLedger();
        for (int month = 1; month <= 10; month++) {
            EDGES.allowed("nobody waits", x::closeMonth, 0);
            EDGES.due("the month", x.count(5), month);
        }
    }

    private static void promise10CarriedOver() {
        EDGES.terms("10", "its base and, of what was left, the part that setting 2 tells in percent"
                + " .. divisions are rounded down");
        int[][] due = {
            {0, 0, 0}, {0, 100, 0}, {1, 0, 0}, {1, 50, 0}, {1, 99, 0}, {1, 100, 1}, {2, 50, 1},
            {3, 33, 0}, {3, 34, 1}, {99, 1, 0}, {100, 1, 1}, {101, 99, 99}, {199, 1, 1},
            {200, 1, 2}, {399, 50, 199}, {400, 50, 200}, {401, 50, 200}, {499, 100, 499},
            {500, 0, 0}, {500, 1, 5}, {500, 99, 495}, {500, 100, 500}};
        for (int[] row : due) {
            for (int base : new int[] {0, 1, 9999}) {
                AmendsLedger x = Ledgers.following(1, 500 - row[0]);
                x.set(2, row[1]);
                x.base(0, base);
                x.closeMonth();
                String call = row[1] + " percent of " + row[0] + " and " + base;
                EDGES.due(call, x.kind(0, 1), base + row[2]);
                EDGES.due("another kind's", x.kind(1, 1), 500 + 500 * row[1] / 100);
            }
        }
    }

    private static void promise10NothingIsSpent() {
        EDGES.terms("10", "nothing is spent so far");
        AmendsLedger x = Ledgers.following(1, 500);
        x.closeMonth();
        EDGES.due("spent", x.kind(0, 2), 0);
        EDGES.due("left", x.kind(0, 3), 500);
        EDGES.due("got", x.kind(0, 6), 500);
    }

    private static void promise10TheMoney() {
        EDGES.promise(10, "Returns the money that complaints that waited get.");
        EDGES.allowed("nobody waits", Ledgers.toJudge()::closeMonth, 0);
        for (int i = 0; i <= 24; i++) {
            int budget = i;
            AmendsLedger x = Ledgers.waiting23();
            x.base(0, budget);
            EDGES.allowed("a budget of " + budget, x::closeMonth, Math.min(budget, 23));
            EDGES.due("spent", x.kind(0, 2), Math.min(budget, 23));
            EDGES.due("those that wait", x.count(7), Math.max(0, 23 - budget));
        }
    }

    private static void promise10AtMostWhatIsLeft() {
        EDGES.terms("10", "whose difference is at most what is left of the budget of its kind");
        for (int difference : new int[] {1, 2, 999}) {
            AmendsLedger x = Ledgers.waitingFor(difference);
            x.base(0, difference - 1);
            EDGES.allowed("1 less than " + difference, x::closeMonth, 0);
            EDGES.due("it waits", x.complaint(1, 10), difference);
            x.base(0, difference);
            EDGES.allowed("as much as " + difference, x::closeMonth, difference);
            EDGES.due("it waits no more", x.complaint(1, 10), 0);
            EDGES.due("nothing is left", x.kind(0, 3), 0);
            EDGES.allowed("nobody waits", x::closeMonth, 0);
        }
    }

    private static void promise10AscendingNumbers() {
        EDGES.terms("10", "gone through by ascending numbers, and each one .. gets it");
        int[][] due = {{4, 0, 5}, {5, 5, 0}, {34, 5, 0}, {35, 35, 5}, {39, 35, 5}, {40, 40, 0},
            {41, 40, 0}};
        for (int[] row : due) {
            AmendsLedger x = Ledgers.raisedOnce(135);
            x.judge(0, 2);
            EDGES.due("one waits for 35", x.complaint(2, 10), 35);
            EDGES.due("one behind it for 5", x.complaint(3, 10), 5);
            x.set(2, 0);
            x.base(0, row[0]);
            EDGES.allowed("a budget of " + row[0], x::closeMonth, row[1]);
            EDGES.due("the first", x.complaint(2, 10), row[0] < 35 ? 35 : 0);
            EDGES.due("the second", x.complaint(3, 10), row[2]);
            EDGES.due("left", x.kind(0, 3), row[0] - row[1]);
        }
    }

    private static void promise10GotAsMuch() {
        EDGES.terms("10", "has got less than the amends of that costs");
        AmendsLedger x = Ledgers.following(3, 0, 5, 5);
        x.appeal(0);
        x.judge(0, 1);
        x.appeal(1);
        EDGES.allowed("another one for as much", () -> x.judge(1, 2), 0);
        EDGES.due("it does not wait", x.complaint(1, 10), 0);
        EDGES.allowed("nobody waits", x::closeMonth, 0);
        EDGES.due("it keeps its own", x.complaint(1, 5), 2);
        EDGES.due("nothing is spent", x.kind(0, 2), 0);
    }

    private static void promise10KindsApart() {
        EDGES.terms("10", "the budget of each kind .. what is left of the budget of its kind");
        AmendsLedger x = new AmendsLedger();
        x.set(2, 0);
        for (int kind = 0; kind < 4; kind++) {
            x.offer(kind, 0, 1, 9);
            x.offer(kind, 10 + kind, 1, 9);
            x.complain(kind, 1, 0);
            x.complain(kind, 1, 0);
            x.decide(2 * kind, 0, 0);
            x.decide(2 * kind + 1, 0, 0);
            x.base(kind, 10 + kind);
        }
        x.closeMonth();
        for (int kind = 0; kind < 4; kind++) {
            x.appeal(2 * kind);
            x.judge(2 * kind, 1);
            x.base(kind, kind % 2 == 0 ? 10 + kind : 9 + kind);
        }
        EDGES.due("four wait", x.count(7), 4);
        EDGES.allowed("two get it", x::closeMonth, 10 + 12);
        for (int kind = 0; kind < 4; kind++) {
            EDGES.due("waited for in kind " + kind, x.kind(kind, 7),
                    kind % 2 == 0 ? 0 : 10 + kind);
            EDGES.due("spent in kind " + kind, x.kind(kind, 2), kind % 2 == 0 ? 10 + kind : 0);
        }
    }

    private static void promise10Likewise() {
        EDGES.terms("10", "all complaints that wait (likewise): whatever their stage (and also if"
                + " it is not offered any more)");
        AmendsLedger x = Ledgers.following(4, 0, 10, 5);
        x.set(1, 3);
        Ledgers.withBudget(x, 15);
        for (int i = 0; i < 3; i++) {
            x.appeal(i);
        }
        x.judge(0, 1);
        x.judge(1, 2);
        x.takeOff(0, 1);
        EDGES.due("a judged one waits", x.complaint(1, 10), 5);
        EDGES.due("one under appeal", x.complaint(2, 10), 10);
        EDGES.due("a decided one", x.complaint(3, 10), 10);
        x.base(0, 25);
        EDGES.allowed("all get it", x::closeMonth, 25);
        int[] stages = {3, 3, 2, 1};
        for (int i = 0; i < 4; i++) {
            EDGES.due("the amends of the precedent", x.complaint(i, 5), 1);
            EDGES.due("the stage stays", x.complaint(i, 4), stages[i]);
        }
    }

    private static void promise10Undoable() {
        EDGES.promise(10, "Undoable.");
        EDGES.undoable("nobody waits", Ledgers::toJudge, AmendsLedger::closeMonth);
        EDGES.undoable("one gets it", Ledgers::lived, AmendsLedger::closeMonth);
        EDGES.undoable("some get it", Ledgers::waiting23, AmendsLedger::closeMonth);
    }
}
