import java.math.BigInteger;
import java.util.ArrayList;
import java.util.List;
import java.util.function.Supplier;

/** Boundary cases of the promises 23 to 28: what would be, shares and the digest. */
public final class EdgesOfWouldBeTest {
    private static final String FIRST_NAMED =
            "the one that is named first in the throws clause is thrown";
    private static final String FIRST_REASON = "The first one of these that applies";
    private static final int[] NO_COMPLAINT = {Ledgers.FAR_BELOW, -1, 6, 24, Ledgers.FAR_ABOVE};
    private static final int[] NO_AMENDS = {Ledgers.FAR_BELOW, -2, -1, 6, 7, Ledgers.FAR_ABOVE};

    private static final Edges EDGES = new Edges("EdgesOfWouldBeTest");

    public static void main(String[] args) {
        promise23Complaint();
        promise23Amends();
        promise23Reason();
        promise23ReasonsAgainstDecisions();
        promise23ReasonsAgainstJudgements();
        promise23FirstNamed();
        promise23NothingIsChanged();
        promise24Complaint();
        promise24NoneIsNone();
        promise24NotOpen();
        promise24CostsLeast();
        promise24LowestNumber();
        promise24WithoutAReason();
        promise24WhatIsLeft();
        promise24Severity();
        promise24NothingIsChanged();
        promise25Complaint();
        promise25Amends();
        promise25What();
        promise25ReasonsAgainst();
        promise25SpentAndTopUps();
        promise25Waiting();
        promise25OtherKindsWait();
        promise25FirstNamed();
        promise25NothingIsChanged();
        promise26NobodyWaits();
        promise26Months();
        promise26MoreThan24();
        promise26Never();
        promise26LimitOf500();
        promise26NothingIsChanged();
        promise27NoneIsOne();
        promise27EveryShare();
        promise28Values();
        promise28Overflow();
        promise28Buffer();
        promise28NothingIsChanged();
        EDGES.end();
    }

    // ---- promise 23

    private static void promise23Complaint() {
        EDGES.promise(23, "if there is no such complaint");
        AmendsLedger x = Ledgers.lived24();
        EDGES.allowed("the first", () -> x.whyNot(0, 0, 0), 1);
        EDGES.allowed("the 24th", () -> x.whyNot(23, 4, 0), 5);
        for (int complaint : NO_COMPLAINT) {
            EDGES.index("complaint " + complaint, Ledgers::lived, y -> y.whyNot(complaint, 0, 0));
            EDGES.index("complaint " + complaint + ", a judgement", Ledgers::lived,
                    y -> y.whyNot(complaint, 0, -1));
        }
        EDGES.index("complaint 24", Ledgers::lived24, y -> y.whyNot(24, 0, 0));
    }

    private static void promise23Amends() {
        EDGES.promise(23, "`amends`: a number, perhaps of no amends");
        AmendsLedger x = Ledgers.toDecide();
        AmendsLedger y = Ledgers.toJudge();
        for (int amends : NO_AMENDS) {
            EDGES.allowed("a decision with " + amends, () -> x.whyNot(1, amends, 1), 2);
            EDGES.allowed("a judgement with " + amends, () -> y.whyNot(0, amends, -1), 2);
        }
        EDGES.allowed("the last one", () -> x.whyNot(6, 5, 0), 5);
        EDGES.allowed("the last one, a judgement", () -> y.whyNot(0, 5, -1), 3);
        AmendsLedger bare = new AmendsLedger();
        bare.complain(3, 1, 0);
        EDGES.allowed("an empty menu", () -> bare.whyNot(0, 0, 0), 2);
    }

    private static void promise23Reason() {
        EDGES.promise(23, "if reason is neither 0 to 5 nor NONE");
        AmendsLedger x = Ledgers.toDecide();
        int[] due = {1, 4, 0, 0, 0, 0, 0};
        for (int i = -1; i <= 5; i++) {
            int reason = i;
            EDGES.allowed("reason " + reason, () -> x.whyNot(1, 1, reason), due[1 + reason]);
        }
        for (int reason : new int[] {Ledgers.FAR_BELOW, -2, 6, Ledgers.FAR_ABOVE}) {
            EDGES.argument("reason " + reason, Ledgers::toDecide, y -> y.whyNot(1, 1, reason));
            EDGES.argument("reason " + reason, Ledgers::toJudge, y -> y.whyNot(0, 0, reason));
        }
    }

    /** The rows: complaint, amends, reason told, reason against it. */
    private static void promise23ReasonsAgainstDecisions() {
        EDGES.terms("23", FIRST_REASON);
        AmendsLedger x = Ledgers.toDecide();
        x.complain(0, 5, 0);
        int[][] due = {
            {0, -1, 0, 1}, {0, 4, 0, 1}, {0, 5, 0, 1}, {0, 1, 0, 1}, {0, 3, 1, 1}, {0, 0, 0, 1},
            {1, 6, 0, 2}, {1, 4, 0, 2}, {1, 4, 1, 2}, {4, 4, 0, 2},
            {2, 1, 0, 3}, {2, 1, 1, 3}, {1, 5, 0, 3}, {4, 5, 0, 3}, {4, 0, 0, 3}, {5, 0, 0, 3},
            {1, 1, 0, 4}, {1, 2, 0, 4}, {1, 3, 0, 4},
            {1, 3, 1, 5}, {4, 3, 0, 5}, {6, 5, 0, 5},
            {1, 0, 0, 0}, {1, 0, 5, 0}, {1, 1, 1, 0}, {1, 2, 1, 0}, {4, 2, 0, 0}, {7, 0, 0, 0}};
        reasons(x, due);
        x.takeOff(0, 5);
        x.takeOff(0, 3);
        reasons(x, new int[][] {{1, 5, 0, 2}, {4, 5, 0, 2}, {1, 3, 0, 2}, {4, 3, 0, 2}});
        x.takeOff(0, 0);
        reasons(x, new int[][] {{1, 0, 0, 2}, {1, 1, 0, 0}, {0, 0, 0, 1}});
        x.undo();
        x.decide(4, 2, 0);
        reasons(x, new int[][] {{1, 0, 0, 5}, {1, 1, 0, 4}, {1, 1, 1, 5}, {2, 1, 0, 3}});
    }

    private static void reasons(AmendsLedger x, int[][] due) {
        for (int[] row : due) {
            EDGES.due("whyNot(" + row[0] + ", " + row[1] + ", " + row[2] + ")",
                    x.whyNot(row[0], row[1], row[2]), row[3]);
        }
    }

    private static void promise23ReasonsAgainstJudgements() {
        EDGES.terms("23", FIRST_REASON);
        AmendsLedger x = Ledgers.toJudge();
        int[][] due = {
            {1, -1, -1, 1}, {1, 0, -1, 1}, {2, 4, -1, 1}, {2, 1, -1, 1}, {3, 3, -1, 1},
            {3, 0, -1, 1}, {0, 6, -1, 2}, {0, -1, -1, 2}, {0, 4, -1, 3}, {0, 5, -1, 3},
            {0, 1, -1, 4}, {0, 3, -1, 5}, {0, 0, -1, 0}, {0, 2, -1, 0}, {0, 0, 0, 1},
            {0, 0, 5, 1}};
        reasons(x, due);
        for (int amends = 0; amends < 6; amends++) {
            EDGES.due("taken off", Ledgers.toJudgeWithout(amends).whyNot(0, amends, -1), 2);
        }
        x.decide(1, 0, 0);
        EDGES.due("left", x.kind(0, 3), 100);
        reasons(x, new int[][] {{0, 2, -1, 5}, {0, 0, -1, 0}, {0, 1, -1, 4}});
    }

    private static void promise23FirstNamed() {
        EDGES.terms("23", FIRST_NAMED);
        EDGES.index("no complaint, reason 6", Ledgers::lived, x -> x.whyNot(6, 0, 6));
        EDGES.index("no complaint, reason -2", Ledgers::lived, x -> x.whyNot(-1, 0, -2));
    }

    private static void promise23NothingIsChanged() {
        EDGES.terms("23", "nothing is changed");
        AmendsLedger x = Ledgers.lived();
        for (int complaint = 0; complaint < 6; complaint++) {
            for (int amends = -1; amends <= 5; amends++) {
                x.whyNot(complaint, amends, -1);
                x.whyNot(complaint, amends, 0);
                x.whyNot(complaint, amends, 5);
            }
        }
        EDGES.alike("whyNot", x, Ledgers.lived());
    }

    // ---- promise 24

    private static void promise24Complaint() {
        EDGES.promise(24, "if there is no such complaint");
        AmendsLedger x = Ledgers.offering(1);
        Ledgers.complain(x, 24, 1);
        EDGES.allowed("the first", () -> x.fair(0), 0);
        EDGES.allowed("the 24th", () -> x.fair(23), 0);
        for (int complaint : NO_COMPLAINT) {
            EDGES.index("complaint " + complaint, Ledgers::lived, y -> y.fair(complaint));
        }
        EDGES.index("complaint 24", Ledgers::lived24, y -> y.fair(24));
    }

    private static void promise24NoneIsNone() {
        EDGES.promise(24, "NONE if there is none");
        AmendsLedger x = new AmendsLedger();
        x.complain(2, 5, 0);
        x.offer(1, 0, 1, 9);
        EDGES.allowed("an empty menu", () -> x.fair(0), -1);
        x.offer(2, 0, 1, 9);
        EDGES.allowed("an amends at no cost", () -> x.fair(0), 0);
        x.takeOff(2, 0);
        EDGES.allowed("taken off", () -> x.fair(0), -1);
    }

    private static void promise24NotOpen() {
        EDGES.promise(24, "with which it could be decided now");
        AmendsLedger x = Ledgers.toJudge();
        EDGES.allowed("open, that of the precedent", () -> x.fair(1), 0);
        EDGES.allowed("under appeal", () -> x.fair(0), -1);
        EDGES.allowed("decided", () -> x.fair(2), -1);
        EDGES.allowed("judged", () -> x.fair(3), -1);
    }

    private static void promise24CostsLeast() {
        EDGES.promise(24, "the one that costs least");
        AmendsLedger x = Ledgers.offering(500, 499, 2, 1, 3, 0);
        x.complain(0, 1, 0);
        int[] order = {5, 3, 2, 4, 1, 0};
        for (int amends : order) {
            EDGES.allowed("the cheapest", () -> x.fair(0), amends);
            x.takeOff(0, amends);
        }
        EDGES.allowed("none is offered", () -> x.fair(0), -1);
    }

    private static void promise24LowestNumber() {
        EDGES.promise(24, "of several the lowest number");
        AmendsLedger x = Ledgers.offering(6, 5, 5, 6, 5, 5);
        x.complain(0, 1, 0);
        for (int amends : new int[] {1, 2, 4, 5, 0, 3}) {
            EDGES.allowed("the lowest number", () -> x.fair(0), amends);
            x.takeOff(0, amends);
        }
    }

    private static void promise24WithoutAReason() {
        EDGES.promise(24, "could be decided now without a reason");
        AmendsLedger x = Ledgers.offering(5, 7, 5);
        Ledgers.complain(x, 3, 1);
        x.complain(0, 4, 0);
        x.decide(0, 1, 0);
        EDGES.allowed("that of the precedent, though dearer", () -> x.fair(1), 1);
        EDGES.allowed("another class", () -> x.fair(3), 0);
        x.closeMonth();
        EDGES.allowed("in its last month", () -> x.fair(1), 1);
        x.closeMonth();
        EDGES.allowed("in the month behind", () -> x.fair(1), 0);
        x.decide(1, 2, 0);
        EDGES.allowed("that of the latest, as dear as a lower one", () -> x.fair(2), 2);
        x.takeOff(0, 2);
        EDGES.allowed("none that binds", () -> x.fair(2), 0);
    }

    private static void promise24WhatIsLeft() {
        EDGES.promise(24, "with which it could be decided now");
        AmendsLedger x = Ledgers.offering(501, 500);
        Ledgers.complain(x, 2, 1);
        EDGES.allowed("500 of 500", () -> x.fair(0), 1);
        x.takeOff(0, 1);
        EDGES.allowed("501 of 500", () -> x.fair(0), -1);
        AmendsLedger y = Ledgers.following(1, 300, 1);
        y.complain(0, 1, 0);
        EDGES.allowed("that of the precedent is too dear", () -> y.fair(1), -1);
        y.closeMonth();
        EDGES.allowed("not in the next month", () -> y.fair(1), 0);
    }

    private static void promise24Severity() {
        EDGES.promise(24, "with which it could be decided now");
        AmendsLedger x = new AmendsLedger();
        x.offer(0, 1, 6, 9);
        x.offer(0, 2, 1, 4);
        x.offer(0, 3, 5, 5);
        int[] due = {1, 1, 1, 1, 2, 0, 0, 0, 0};
        for (int i = 0; i < 9; i++) {
            int number = i;
            x.complain(0, i + 1, 0);
            EDGES.allowed("severity " + (i + 1), () -> x.fair(number), due[i]);
        }
    }

    private static void promise24NothingIsChanged() {
        EDGES.terms("24", "nothing is changed");
        AmendsLedger x = Ledgers.lived();
        for (int complaint = 0; complaint < 6; complaint++) {
            x.fair(complaint);
        }
        EDGES.alike("fair", x, Ledgers.lived());
    }

    // ---- promise 25

    private static void promise25Complaint() {
        EDGES.promise(25, "if there is no such complaint");
        AmendsLedger x = Ledgers.followers24();
        x.appeal(0);
        x.appeal(23);
        EDGES.allowed("the first", () -> x.ifJudged(0, 0, 2), 0);
        EDGES.allowed("the 24th", () -> x.ifJudged(23, 1, 2), 23);
        for (int complaint : NO_COMPLAINT) {
            EDGES.index("complaint " + complaint, Ledgers::lived,
                    y -> y.ifJudged(complaint, 0, 0));
        }
        EDGES.index("complaint 24", Ledgers::lived24, y -> y.ifJudged(24, 0, 0));
    }

    private static void promise25Amends() {
        EDGES.promise(25, "`amends`: a number, perhaps of no amends");
        AmendsLedger x = Ledgers.toJudge();
        for (int what = 0; what <= 3; what++) {
            int told = what;
            for (int amends : NO_AMENDS) {
                EDGES.allowed("amends " + amends, () -> x.ifJudged(0, amends, told), -1);
            }
            EDGES.allowed("the first", () -> x.ifJudged(0, 0, told), 0);
            EDGES.allowed("the last", () -> x.ifJudged(0, 5, told), -1);
        }
    }

    private static void promise25What() {
        EDGES.promise(25, "if what is not 0 to 3");
        int[] due = {9, 2, 1, 33};
        for (int i = 0; i <= 3; i++) {
            int what = i;
            AmendsLedger x = Ledgers.raisedOnce(133);
            EDGES.allowed("what " + what, () -> x.ifJudged(0, 2, what), due[what]);
        }
        for (int what : new int[] {Ledgers.FAR_BELOW, -1, 4, Ledgers.FAR_ABOVE}) {
            EDGES.argument("what " + what, () -> Ledgers.raisedOnce(133),
                    x -> x.ifJudged(0, 2, what));
            EDGES.argument("what " + what + ", and a reason against it", Ledgers::lived,
                    x -> x.ifJudged(0, -1, what));
        }
    }

    private static void promise25ReasonsAgainst() {
        EDGES.promise(25, "NONE if there is a reason against the judgement");
        AmendsLedger x = Ledgers.toJudge();
        AmendsLedger y = Ledgers.toJudgeWithout(0);
        for (int i = 0; i <= 3; i++) {
            int what = i;
            for (int complaint = 1; complaint <= 3; complaint++) {
                int told = complaint;
                EDGES.allowed("1: not under appeal", () -> x.ifJudged(told, 0, what), -1);
            }
            EDGES.allowed("2: taken off", () -> y.ifJudged(0, 0, what), -1);
            EDGES.allowed("3: 5 of 6 to 9", () -> x.ifJudged(0, 4, what), -1);
            EDGES.allowed("3: 5 of 1 to 4", () -> x.ifJudged(0, 5, what), -1);
            EDGES.allowed("4: 99 after 100", () -> x.ifJudged(0, 1, what), -1);
            EDGES.allowed("5: 201 of 200", () -> x.ifJudged(0, 3, what), -1);
        }
        EDGES.allowed("200 of 200", () -> x.ifJudged(0, 2, 0), 200);
        EDGES.allowed("no top-up with nothing left", () -> x.ifJudged(0, 2, 1), 0);
        EDGES.allowed("two would wait", () -> x.ifJudged(0, 2, 2), 2);
        EDGES.allowed("for 200 each", () -> x.ifJudged(0, 2, 3), 400);
    }

    private static void promise25SpentAndTopUps() {
        EDGES.promise(25, "0: what would be spent at once, with top-ups; 1: how many top-ups");
        int[][] due = {
            {130, 0, 0, 1, 30}, {131, 3, 2, 1, 31}, {133, 9, 2, 1, 33}, {134, 8, 1, 2, 38},
            {135, 10, 1, 2, 40}, {136, 6, 0, 3, 48}, {140, 10, 0, 3, 60}, {141, -1, -1, -1, -1}};
        for (int[] row : due) {
            AmendsLedger x = Ledgers.raisedOnce(row[0]);
            for (int what = 0; what <= 3; what++) {
                EDGES.due("raised to " + row[0] + ", what " + what, x.ifJudged(0, 2, what),
                        row[1 + what]);
            }
            EDGES.alike("raised to " + row[0], x, Ledgers.raisedOnce(row[0]));
        }
    }

    private static void promise25Waiting() {
        EDGES.promise(25, "2: how many complaints would wait then, of all; 3: what they would wait"
                + " for, together");
        for (int budget = 1; budget <= 24; budget++) {
            AmendsLedger x = Ledgers.withBudget(Ledgers.following(24, 0, 1), budget);
            x.appeal(23);
            EDGES.due("spent of " + budget, x.ifJudged(23, 1, 0), budget);
            EDGES.due("top-ups of " + budget, x.ifJudged(23, 1, 1), budget - 1);
            EDGES.due("waiting with " + budget, x.ifJudged(23, 1, 2), 24 - budget);
            EDGES.due("waited for with " + budget, x.ifJudged(23, 1, 3), 24 - budget);
            EDGES.due("nobody waits now", x.count(7), 0);
        }
    }

    private static void promise25OtherKindsWait() {
        EDGES.promise(25, "of all .. together");
        AmendsLedger x = Ledgers.waitingFor(7);
        x.offer(3, 10, 1, 9);
        x.complain(3, 1, 0);
        x.decide(2, 0, 0);
        x.appeal(2);
        int[] due = {0, 0, 1, 7};
        for (int what = 0; what <= 3; what++) {
            EDGES.due("what " + what, x.ifJudged(2, 0, what), due[what]);
        }
    }

    private static void promise25FirstNamed() {
        EDGES.terms("25", FIRST_NAMED);
        EDGES.index("no complaint, what 4", Ledgers::lived, x -> x.ifJudged(6, 0, 4));
        EDGES.index("no complaint, what -1", Ledgers::lived, x -> x.ifJudged(-1, 0, -1));
    }

    private static void promise25NothingIsChanged() {
        EDGES.terms("25", "nothing is changed");
        AmendsLedger x = Ledgers.followers24();
        x.appeal(0);
        for (int amends = -1; amends <= 2; amends++) {
            for (int what = 0; what <= 3; what++) {
                x.ifJudged(0, amends, what);
            }
        }
        AmendsLedger twin = Ledgers.followers24();
        twin.appeal(0);
        EDGES.alike("ifJudged", x, twin);
    }

    // ---- promise 26

    private static void promise26NobodyWaits() {
        EDGES.promise(26, "0 if nobody waits now");
        EDGES.due("a new one", new AmendsLedger().monthsToEqual(), 0);
        EDGES.due("24 that are equal", Ledgers.followers24().monthsToEqual(), 0);
        AmendsLedger x = Ledgers.waitingFor(1);
        EDGES.due("one waits for 1", x.monthsToEqual(), 1);
        x.closeMonth();
        EDGES.due("it has got it", x.monthsToEqual(), 0);
    }

    private static void promise26Months() {
        EDGES.promise(26, "Returns how many, if nothing else was done");
        for (int i = 1; i <= 24; i++) {
            AmendsLedger x = Ledgers.waitingFor(i);
            x.set(2, 100);
            EDGES.due("1 a month for " + i, x.monthsToEqual(), i);
            for (int left = i - 1; left >= 0; left--) {
                x.closeMonth();
                EDGES.due("months left", x.monthsToEqual(), left);
            }
        }
        AmendsLedger y = Ledgers.waiting23();
        EDGES.due("one of 23 a month", y.monthsToEqual(), 23);
        y.base(0, 12);
        EDGES.due("twelve of 23 a month", y.monthsToEqual(), 2);
        y.base(0, 22);
        EDGES.due("22 of 23 a month", y.monthsToEqual(), 2);
        y.base(0, 23);
        EDGES.due("all of 23", y.monthsToEqual(), 1);
    }

    private static void promise26MoreThan24() {
        EDGES.promise(26, "NONE if it would be more than 24");
        for (int difference = 23; difference <= 26; difference++) {
            AmendsLedger x = Ledgers.waitingFor(difference);
            x.set(2, 100);
            EDGES.due("1 a month for " + difference, x.monthsToEqual(),
                    difference <= 24 ? difference : -1);
            x.closeMonth();
            EDGES.due("a month later", x.monthsToEqual(), difference <= 25 ? difference - 1 : -1);
        }
    }

    private static void promise26Never() {
        EDGES.promise(26, "NONE if it would be more than 24");
        AmendsLedger x = Ledgers.waitingFor(2);
        EDGES.due("1 a month, nothing carried over", x.monthsToEqual(), -1);
        x.set(2, 99);
        EDGES.due("99 percent of 1, rounded down", x.monthsToEqual(), -1);
        x.set(2, 100);
        EDGES.due("1 a month, all carried over", x.monthsToEqual(), 2);
        x.base(0, 0);
        EDGES.due("nothing a month", x.monthsToEqual(), -1);
    }

    /** Of the 512 calls of an object, 500 close months. */
    private static void promise26LimitOf500() {
        EDGES.promise(26, "(the limit of 500 does not matter)");
        for (int cost = 511; cost <= 513; cost++) {
            AmendsLedger x = Ledgers.offering(0, cost);
            Ledgers.complain(x, 2, 1);
            x.base(0, 1);
            x.set(2, 100);
            Ledgers.later(x, 500);
            x.decide(0, 0, 0);
            x.decide(1, 0, 0);
            x.appeal(0);
            x.judge(0, 1);
            EDGES.due("1000 - " + cost + " are left, in the month 500", x.monthsToEqual(),
                    cost == 511 ? 22 : cost == 512 ? 24 : -1);
            EDGES.due("the month", x.count(5), 500);
        }
    }

    private static void promise26NothingIsChanged() {
        EDGES.terms("26", "nothing is changed");
        AmendsLedger x = Ledgers.waiting23();
        x.monthsToEqual();
        EDGES.alike("monthsToEqual", x, Ledgers.waiting23());
    }

    // ---- promise 27

    private static void promise27NoneIsOne() {
        EDGES.promise(27, "1.0 if that is 0");
        EDGES.due("a new one", new AmendsLedger().followShare(), 1.0);
        AmendsLedger x = new AmendsLedger();
        Ledgers.complain(x, 24, 1);
        EDGES.due("24 open ones", x.followShare(), 1.0);
    }

    private static void promise27EveryShare() {
        EDGES.promise(27, "Returns the number of complaints that are not open and do not depart, as"
                + " a double, divided by the number of those that are not open");
        for (int following = 1; following <= 24; following++) {
            AmendsLedger x = Ledgers.offering(0, 0);
            Ledgers.complain(x, 24, 1);
            for (int i = 0; i < 24; i++) {
                x.decide(i, i < following ? 0 : 1, 1);
                EDGES.due("of " + (i + 1), x.followShare(),
                        (double) Math.min(following, i + 1) / (i + 1));
            }
            x.appeal(23);
            x.judge(23, 1);
            EDGES.due("one is judged", x.followShare(), following / 24.0);
        }
    }

    // ---- promise 28

    private static void promise28Values() {
        EDGES.promise(28, "For each value v of the following list, in order");
        values("a new one", AmendsLedger::new, "");
        values("all stages", Ledgers::lived, "k1s2c3;k");
        values("a full menu", Ledgers::livedFullMenu, "k1s2c3;k");
        values("24 complaints", Ledgers::lived24, "k1s2c3;k");
        values("24 precedents", Ledgers::precedents24, "");
        values("24 followers", Ledgers::followers24, "");
        values("23 that wait", Ledgers::waiting23, "");
        values("one that waits for long", () -> Ledgers.waitingFor(999), "");
        values("decisions", Ledgers::toDecide, "");
        values("judgements", Ledgers::toJudge, "");
        values("top-ups", () -> Ledgers.raisedOnce(133), "");
        values("a menu of one amends", EdgesOfWouldBeTest::appealedOfOne, "");
        values("an empty menu", EdgesOfWouldBeTest::open24, "");
        for (int i = 1; i <= 23; i++) {
            int departing = i;
            values(departing + " of 24 depart", () -> departing24(departing), "");
        }
    }

    private static AmendsLedger departing24(int departing) {
        AmendsLedger x = Ledgers.offering(0, 0);
        Ledgers.complain(x, 24, 1);
        for (int i = 0; i < 24; i++) {
            x.decide(23 - i, i < 24 - departing ? 0 : 1, 1);
        }
        return x;
    }

    private static AmendsLedger appealedOfOne() {
        AmendsLedger x = Ledgers.following(1, 5);
        x.appeal(0);
        return x;
    }

    private static AmendsLedger open24() {
        AmendsLedger x = new AmendsLedger();
        Ledgers.complain(x, 24, 9);
        return x;
    }

    private static void values(String call, Supplier<AmendsLedger> made, String text) {
        EDGES.due(call, made.get().digest(), hashed(valuesOf(made, text)));
    }

    private static void promise28Overflow() {
        EDGES.promise(28, "31 * hash + v, in long arithmetic with overflow");
        EDGES.due("of a new one", new AmendsLedger().digest(), -3508342908592606248L);
    }

    private static void promise28Buffer() {
        EDGES.promise(28, "the length of the buffer and each of its character codes");
        AmendsLedger x = new AmendsLedger();
        long empty = x.digest();
        long[] expected = new long[61];
        BigInteger before = BigInteger.valueOf(empty);
        for (int length = 0; length <= 60; length++) {
            BigInteger hash = before.add(BigInteger.valueOf(length));
            for (int i = 0; i < length; i++) {
                hash = hash.multiply(BigInteger.valueOf(31)).add(BigInteger.valueOf(126 - i));
            }
            expected[length] = hash.longValue();
        }
        for (int length = 0; length <= 60; length++) {
            EDGES.due("length " + length, x.digest(), expected[length]);
            if (length < 60) {
                x.append(126 - length);
            }
        }
        x.clearBuffer();
        EDGES.due("cleared", x.digest(), empty);
    }

    private static void promise28NothingIsChanged() {
        EDGES.terms("28", "nothing is changed");
        AmendsLedger x = Ledgers.raisedOnce(133);
        x.digest();
        EDGES.alike("digest", x, Ledgers.raisedOnce(133));
    }

    /** Two like ledgers are asked, so that neither is asked more than 512 times. */
    private static List<Long> valuesOf(Supplier<AmendsLedger> made, String text) {
        List<Long> values = new ArrayList<>();
        AmendsLedger x = made.get();
        for (int what = 0; what <= 11; what++) {
            values.add((long) x.count(what));
        }
        for (int setting = 0; setting <= 2; setting++) {
            values.add((long) x.setting(setting));
        }
        for (int kind = 0; kind <= 3; kind++) {
            addKind(values, x, kind);
        }
        addComplaints(values, made.get(), x.count(0));
        for (int customer = 0; customer <= 9; customer++) {
            values.add((long) x.ofCustomer(customer, 0));
        }
        values.add((long) x.monthsToEqual());
        values.add(Double.doubleToLongBits(x.followShare()));
        values.add((long) text.length());
        text.chars().forEach(code -> values.add((long) code));
        return values;
    }

    private static void addComplaints(List<Long> values, AmendsLedger x, int count) {
        for (int complaint = 0; complaint < count; complaint++) {
            for (int what = 0; what <= 10; what++) {
                values.add((long) x.complaint(complaint, what));
            }
            values.add((long) x.fair(complaint));
            values.add((long) x.whyNot(complaint, 0, 0));
            for (int what = 0; what <= 3; what++) {
                values.add((long) x.ifJudged(complaint, 1, what));
            }
        }
    }

    private static void addKind(List<Long> values, AmendsLedger x, int kind) {
        for (int what = 0; what <= 7; what++) {
            values.add((long) x.kind(kind, what));
        }
        for (int amends = 0; amends < x.kind(kind, 4); amends++) {
            for (int what = 0; what <= 4; what++) {
                values.add((long) x.amends(kind, amends, what));
            }
        }
        for (int group = 0; group <= 2; group++) {
            for (int what = 0; what <= 4; what++) {
                values.add((long) x.precedent(kind, group, what));
            }
        }
    }

    /** Without bounds, so that the last 64 bits tell what overflow leaves. */
    private static long hashed(List<Long> values) {
        BigInteger hash = BigInteger.valueOf(2539);
        for (long value : values) {
            hash = hash.multiply(BigInteger.valueOf(31)).add(BigInteger.valueOf(value));
        }
        return hash.longValue();
    }
}
