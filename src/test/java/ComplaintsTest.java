/** Promises 6 to 10: complaints, decisions, appeals, judgements and months. */
public final class ComplaintsTest {
    private static final Class<IndexOutOfBoundsException> INDEX = IndexOutOfBoundsException.class;
    private static final Class<IllegalArgumentException> ARGUMENT = IllegalArgumentException.class;
    private static final Class<IllegalStateException> STATE = IllegalStateException.class;

    private static final Checks CHECKS = new Checks("ComplaintsTest");

    public static void main(String[] args) {
        promise6Complain();
        promise6ComplainRefused();
        promise7SetsFollowsDeparts();
        promise7ClassesAndKindsApart();
        promise7PrecedentEnds();
        promise7PrecedentTakenOff();
        promise7DecideRefused();
        promise8Appeal();
        promise8TooLate();
        promise9TopUpsAtOnce();
        promise9NothingToRaise();
        promise9AsDearOrCheaper();
        promise9DifferenceOfOne();
        promise9EarlierPrecedent();
        promise9RaisedByAnotherAmends();
        promise9JudgeRefused();
        promise10Budget();
        promise10TopUps();
        promise10LastMonth();
        CHECKS.end();
    }

    /** Amends of kind 0 that cost 10, 20, .. 60, all for any severity. */
    private static AmendsLedger withMenu() {
        AmendsLedger x = new AmendsLedger();
        for (int i = 1; i <= 6; i++) {
            x.offer(0, 10 * i, 1, 9);
        }
        return x;
    }

    private static void complaints(AmendsLedger x, int many, int severity) {
        for (int i = 0; i < many; i++) {
            x.complain(0, severity, i % 10);
        }
    }

    /** So many complaints of kind 0 that follow a precedent with the amends 0. */
    private static AmendsLedger withFollowers(int many) {
        AmendsLedger x = withMenu();
        complaints(x, many, 1);
        for (int i = 0; i < many; i++) {
            CHECKS.due("decide", x.decide(i, 0, 0), i == 0 ? 1 : 2);
        }
        return x;
    }

    private static void promise6Complain() {
        AmendsLedger x = new AmendsLedger();
        CHECKS.due("complain", x.complain(0, 1, 0), 0);
        CHECKS.due("complain", x.complain(3, 9, 9), 1);
        int[] first = {3, 9, 9, 2, 0, -1, 0, -1, -1, 0, 0};
        for (int what = 0; what <= 10; what++) {
            CHECKS.due("complaint " + what, x.complaint(1, what), first[what]);
        }
        CHECKS.due("undo", x.undo(), 1);
        CHECKS.due("undone", x.count(0), 1);
        for (int i = 1; i < 24; i++) {
            CHECKS.due("complain", x.complain(1, 5, 5), i);
        }
        CHECKS.refused("the 25th", STATE, () -> x.complain(1, 5, 5));
        CHECKS.refused("kind first", INDEX, () -> x.complain(4, 0, 0));
        CHECKS.refused("arguments before the state", ARGUMENT, () -> x.complain(1, 0, 0));
        CHECKS.due("complaints", x.count(0), 24);
    }

    private static void promise6ComplainRefused() {
        AmendsLedger x = new AmendsLedger();
        CHECKS.refused("kind -1", INDEX, () -> x.complain(-1, 1, 0));
        CHECKS.refused("kind 4", INDEX, () -> x.complain(4, 1, 0));
        CHECKS.refused("severity 0", ARGUMENT, () -> x.complain(0, 0, 0));
        CHECKS.refused("severity 10", ARGUMENT, () -> x.complain(0, 10, 0));
        CHECKS.refused("customer -1", ARGUMENT, () -> x.complain(0, 1, -1));
        CHECKS.refused("customer 10", ARGUMENT, () -> x.complain(0, 1, 10));
        CHECKS.due("none was taken", x.count(0), 0);
        CHECKS.due("nothing was saved", x.count(11), 0);
    }

    private static void promise7SetsFollowsDeparts() {
        AmendsLedger x = withMenu();
        complaints(x, 3, 4);
        CHECKS.due("sets one, whatever is told", x.decide(0, 1, 5), 1);
        CHECKS.due("its reason is 0", x.complaint(0, 7), 0);
        CHECKS.due("follows, whatever is told", x.decide(1, 1, 3), 2);
        CHECKS.due("its reason is 0, too", x.complaint(1, 7), 0);
        CHECKS.due("departs", x.decide(2, 2, 4), 3);
        CHECKS.due("keeps its reason", x.complaint(2, 7), 4);
        CHECKS.due("got", x.complaint(2, 6), 30);
        CHECKS.due("amends", x.complaint(2, 5), 2);
        CHECKS.due("decided", x.complaint(2, 4), 1);
        CHECKS.due("month", x.complaint(2, 8), 0);
        CHECKS.due("spent", x.kind(0, 2), 70);
        CHECKS.due("left", x.kind(0, 3), 430);
        CHECKS.due("precedents", x.count(9), 1);
        CHECKS.due("departing ones do not replace it", x.precedent(0, 1, 0), 1);
        x.undo();
        CHECKS.due("undone", x.complaint(2, 4), 0);
        CHECKS.due("unspent", x.kind(0, 2), 40);
    }

    private static void promise7ClassesAndKindsApart() {
        AmendsLedger x = withMenu();
        x.offer(1, 5, 1, 9);
        int[] severities = {1, 3, 4, 6, 7, 9};
        for (int severity : severities) {
            x.complain(0, severity, 0);
        }
        x.complain(1, 1, 0);
        for (int i = 0; i < 6; i++) {
            CHECKS.due("decide", x.decide(i, 2, 0), 1 + i % 2);
        }
        CHECKS.due("another kind", x.decide(6, 0, 0), 1);
        CHECKS.due("precedents", x.count(9), 4);
        CHECKS.due("spent of another kind", x.kind(1, 2), 5);
    }

    private static void promise7PrecedentEnds() {
        AmendsLedger x = withMenu();
        complaints(x, 5, 2);
        x.decide(0, 0, 0);
        x.closeMonth();
        CHECKS.due("binds in its second month", x.decide(1, 0, 0), 2);
        x.closeMonth();
        CHECKS.due("does not bind in its third", x.precedent(0, 0, 3), 0);
        x.set(0, 3);
        CHECKS.due("the setting as it is now", x.precedent(0, 0, 3), 1);
        x.undo();
        CHECKS.due("sets another one", x.decide(2, 1, 0), 1);
        CHECKS.due("the latest", x.precedent(0, 0, 2), 2);
        CHECKS.due("its month", x.precedent(0, 0, 1), 2);
        CHECKS.due("its followers", x.precedent(0, 0, 4), 1);
        CHECKS.due("an earlier one's follower follows on", x.complaint(1, 9), 2);
        CHECKS.due("an earlier one's setter, too", x.complaint(0, 9), 1);
        CHECKS.due("and they do not wait", x.count(7), 0);
        CHECKS.due("precedents", x.count(9), 2);
        x.set(0, 1);
        CHECKS.due("binds in its month", x.precedent(0, 0, 3), 1);
        x.closeMonth();
        CHECKS.due("but not in the next", x.precedent(0, 0, 3), 0);
    }

    private static void promise7PrecedentTakenOff() {
        AmendsLedger x = withMenu();
        complaints(x, 3, 9);
        x.decide(0, 0, 0);
        x.takeOff(0, 0);
        CHECKS.due("does not bind", x.precedent(0, 2, 3), 0);
        CHECKS.due("sets another one", x.decide(1, 3, 0), 1);
        CHECKS.due("which binds", x.decide(2, 3, 0), 2);
        CHECKS.due("the setter", x.precedent(0, 2, 2), 1);
    }

    private static void promise7DecideRefused() {
        AmendsLedger x = withMenu();
        complaints(x, 2, 5);
        CHECKS.refused("complaint -1", INDEX, () -> x.decide(-1, 0, 6));
        CHECKS.refused("complaint 2", INDEX, () -> x.decide(2, 0, 0));
        CHECKS.refused("reason -1", ARGUMENT, () -> x.decide(0, 9, -1));
        CHECKS.refused("reason 6", ARGUMENT, () -> x.decide(0, 0, 6));
        CHECKS.refused("amends -1", STATE, () -> x.decide(0, -1, 0));
        CHECKS.refused("amends 6", STATE, () -> x.decide(0, 6, 0));
        x.decide(0, 0, 0);
        CHECKS.refused("decided before", STATE, () -> x.decide(0, 0, 0));
        CHECKS.refused("departs without a reason", STATE, () -> x.decide(1, 1, 0));
        AmendsLedger y = new AmendsLedger();
        y.offer(0, 10, 6, 9);
        y.offer(0, 10, 1, 4);
        y.offer(0, 501, 5, 5);
        y.offer(0, 500, 5, 5);
        complaints(y, 2, 5);
        long before = y.digest();
        CHECKS.refused("severity below", STATE, () -> y.decide(0, 0, 0));
        CHECKS.refused("severity above", STATE, () -> y.decide(0, 1, 0));
        CHECKS.refused("too dear by 1", STATE, () -> y.decide(0, 2, 0));
        CHECKS.due("refusals change nothing", y.digest(), before);
        CHECKS.due("all of the budget", y.decide(0, 3, 0), 1);
        CHECKS.due("nothing is left", y.kind(0, 3), 0);
    }

    private static void promise8Appeal() {
        AmendsLedger x = withFollowers(3);
        CHECKS.due("appeal", x.appeal(1), 1);
        CHECKS.due("appeal", x.appeal(0), 2);
        CHECKS.due("stage", x.complaint(1, 4), 2);
        CHECKS.refused("appealed before", STATE, () -> x.appeal(1));
        CHECKS.refused("complaint -1", INDEX, () -> x.appeal(-1));
        CHECKS.refused("complaint 3", INDEX, () -> x.appeal(3));
        x.judge(1, 0);
        CHECKS.refused("judged before", STATE, () -> x.appeal(1));
        CHECKS.due("one is judged", x.appeal(2), 2);
        x.complain(0, 1, 1);
        CHECKS.refused("an open one", STATE, () -> x.appeal(3));
        x.undo();
        x.undo();
        CHECKS.due("undone", x.complaint(2, 4), 1);
    }

    private static void promise8TooLate() {
        AmendsLedger x = withFollowers(3);
        x.closeMonth();
        CHECKS.due("in the next month", x.appeal(0), 1);
        x.closeMonth();
        CHECKS.refused("too late", STATE, () -> x.appeal(1));
        x.set(1, 2);
        CHECKS.due("the setting as it is now", x.appeal(1), 2);
        x.set(1, 0);
        CHECKS.refused("too late again", STATE, () -> x.appeal(2));
        x.set(1, 3);
        x.closeMonth();
        CHECKS.due("three months later", x.appeal(2), 3);
        x.complain(0, 9, 0);
        x.decide(3, 0, 0);
        x.set(1, 0);
        CHECKS.due("in its own month", x.appeal(3), 4);
    }

    private static void promise9TopUpsAtOnce() {
        AmendsLedger x = withFollowers(4);
        x.complain(0, 2, 0);
        x.decide(4, 4, 1);
        x.appeal(1);
        x.appeal(2);
        CHECKS.due("the three others get 20 more", x.judge(1, 2), 3);
        CHECKS.due("judged", x.complaint(1, 4), 3);
        for (int i = 0; i < 4; i++) {
            CHECKS.due("got", x.complaint(i, 6), 30);
            CHECKS.due("amends", x.complaint(i, 5), 2);
            CHECKS.due("waits no more", x.complaint(i, 10), 0);
        }
        CHECKS.due("still under appeal", x.complaint(2, 4), 2);
        CHECKS.due("still decided", x.complaint(0, 4), 1);
        CHECKS.due("a departing one gets nothing", x.complaint(4, 6), 50);
        CHECKS.due("spent", x.kind(0, 2), 170);
        CHECKS.due("the precedent's amends", x.precedent(0, 0, 0), 2);
        CHECKS.due("its setter stays", x.precedent(0, 0, 2), 0);
        x.undo();
        CHECKS.due("undone", x.count(6), 90);
        CHECKS.due("the precedent, too", x.precedent(0, 0, 0), 0);
    }

    private static void promise9NothingToRaise() {
        AmendsLedger x = withMenu();
        x.takeOff(0, 5);
        complaints(x, 3, 8);
        x.decide(0, 1, 0);
        x.decide(1, 1, 0);
        x.decide(2, 3, 2);
        x.appeal(2);
        CHECKS.due("a departing one", x.judge(2, 4), 0);
        CHECKS.due("got", x.complaint(2, 6), 50);
        CHECKS.due("departs still", x.complaint(2, 9), 3);
        CHECKS.due("nobody waits", x.count(7), 0);
        x.appeal(1);
        CHECKS.due("the same amends", x.judge(1, 1), 0);
        CHECKS.due("spent", x.kind(0, 2), 90);
        CHECKS.due("the precedent stays", x.precedent(0, 2, 0), 1);
        x.closeMonth();
        x.appeal(0);
        x.judge(0, 2);
        CHECKS.due("its month stays", x.precedent(0, 2, 1), 0);
    }

    private static void promise9AsDearOrCheaper() {
        AmendsLedger x = new AmendsLedger();
        x.offer(0, 100, 1, 9);
        x.offer(0, 100, 1, 9);
        x.offer(0, 150, 1, 9);
        x.offer(0, 200, 1, 9);
        complaints(x, 3, 1);
        for (int i = 0; i < 3; i++) {
            x.decide(i, 0, 0);
        }
        x.appeal(0);
        CHECKS.due("another amends that costs the same", x.judge(0, 1), 0);
        CHECKS.due("the complaint has it", x.complaint(0, 5), 1);
        CHECKS.due("the precedent stays", x.precedent(0, 0, 0), 0);
        x.offer(0, 300, 1, 9);
        x.appeal(1);
        CHECKS.due("nothing is left for the others", x.judge(1, 4), 0);
        x.base(0, 60);
        x.set(2, 0);
        x.closeMonth();
        x.appeal(2);
        CHECKS.due("less than the precedent now has", x.judge(2, 2), 0);
        CHECKS.due("the precedent stays", x.precedent(0, 0, 0), 4);
        CHECKS.due("waits for the rest", x.complaint(2, 10), 150);
        CHECKS.due("judged", x.complaint(2, 4), 3);
        x.base(0, 200);
        CHECKS.due("whatever the stage", x.closeMonth(), 200);
        CHECKS.due("the lower number comes first", x.complaint(0, 10), 0);
        CHECKS.due("a judged one gets its amends later", x.closeMonth(), 150);
        CHECKS.due("its amends", x.complaint(2, 5), 4);
    }

    private static void promise9DifferenceOfOne() {
        AmendsLedger x = new AmendsLedger();
        x.offer(0, 100, 1, 9);
        x.offer(0, 101, 1, 9);
        complaints(x, 2, 1);
        x.decide(0, 0, 0);
        x.decide(1, 0, 0);
        x.base(0, 1);
        x.set(2, 0);
        x.closeMonth();
        x.appeal(0);
        CHECKS.due("the last one is spent", x.judge(0, 1), 0);
        CHECKS.due("one waits", x.count(7), 1);
        CHECKS.due("for one", x.complaint(1, 10), 1);
        x.undo();
        x.base(0, 2);
        x.closeMonth();
        CHECKS.due("one gets it", x.judge(0, 1), 1);
        CHECKS.due("nothing is left", x.kind(0, 3), 0);
    }

    private static void promise9EarlierPrecedent() {
        AmendsLedger x = withFollowers(2);
        x.closeMonth();
        x.closeMonth();
        x.set(1, 2);
        x.complain(0, 1, 0);
        x.complain(0, 1, 0);
        CHECKS.due("another precedent", x.decide(2, 1, 0), 1);
        x.appeal(0);
        CHECKS.due("the earlier one is raised", x.judge(0, 5), 1);
        CHECKS.due("its follower", x.complaint(1, 6), 60);
        CHECKS.due("not the other's", x.complaint(2, 6), 20);
        CHECKS.due("the latest stays", x.precedent(0, 0, 0), 1);
        CHECKS.due("and binds", x.decide(3, 1, 0), 2);
    }

    private static void promise9RaisedByAnotherAmends() {
        AmendsLedger x = withFollowers(3);
        x.base(0, 0);
        x.set(2, 0);
        x.closeMonth();
        x.appeal(0);
        x.appeal(1);
        CHECKS.refused("nothing is left", STATE, () -> x.judge(0, 1));
        CHECKS.due("judged at no cost", x.judge(0, 0), 0);
        x.base(0, 45);
        x.closeMonth();
        CHECKS.due("ascending, as long as it is enough", x.judge(1, 2), 1);
        CHECKS.due("the first", x.complaint(0, 6), 30);
        CHECKS.due("the last waits", x.complaint(2, 10), 20);
        CHECKS.due("left", x.kind(0, 3), 5);
        x.takeOff(0, 2);
        CHECKS.due("does not bind", x.precedent(0, 0, 3), 0);
        CHECKS.due("a top-up all the same", x.closeMonth(), 20);
        CHECKS.due("the last", x.complaint(2, 5), 2);
    }

    private static void promise9JudgeRefused() {
        AmendsLedger x = withMenu();
        complaints(x, 2, 3);
        x.decide(0, 2, 0);
        x.decide(1, 2, 0);
        x.appeal(0);
        CHECKS.refused("complaint -1", INDEX, () -> x.judge(-1, 0));
        CHECKS.refused("complaint 2", INDEX, () -> x.judge(2, 0));
        CHECKS.refused("not under appeal", STATE, () -> x.judge(1, 3));
        CHECKS.refused("amends -1", STATE, () -> x.judge(0, -1));
        CHECKS.refused("amends 6", STATE, () -> x.judge(0, 6));
        CHECKS.refused("costs less", STATE, () -> x.judge(0, 1));
        x.takeOff(0, 3);
        CHECKS.refused("not offered", STATE, () -> x.judge(0, 3));
        x.takeOff(0, 2);
        CHECKS.refused("its own amends, not offered", STATE, () -> x.judge(0, 2));
        CHECKS.due("judge", x.judge(0, 4), 1);
        CHECKS.refused("judged before", STATE, () -> x.judge(0, 4));
    }

    private static void promise10Budget() {
        AmendsLedger x = new AmendsLedger();
        x.offer(0, 101, 1, 9);
        x.complain(0, 1, 0);
        x.decide(0, 0, 0);
        x.base(0, 1000);
        CHECKS.due("closeMonth", x.closeMonth(), 0);
        CHECKS.due("month", x.count(5), 1);
        CHECKS.due("1000 and half of 399, rounded down", x.kind(0, 1), 1199);
        CHECKS.due("nothing spent", x.kind(0, 2), 0);
        CHECKS.due("another kind", x.kind(1, 1), 750);
        x.set(2, 100);
        x.closeMonth();
        CHECKS.due("all is carried over", x.kind(0, 1), 2199);
        x.set(2, 0);
        x.closeMonth();
        CHECKS.due("nothing is carried over", x.kind(0, 1), 1000);
        x.undo();
        CHECKS.due("undone", x.count(5), 2);
        CHECKS.due("undone", x.kind(0, 1), 2199);
    }

    private static void promise10TopUps() {
        AmendsLedger x = new AmendsLedger();
        x.offer(0, 100, 1, 9);
        x.offer(0, 150, 1, 9);
        x.offer(1, 5, 1, 9);
        x.offer(1, 9, 1, 9);
        for (int i = 0; i < 4; i++) {
            x.complain(0, 1, i);
            x.decide(i, 0, 0);
        }
        x.complain(1, 1, 9);
        x.decide(4, 0, 0);
        x.base(0, 0);
        x.base(1, 0);
        x.set(2, 0);
        x.appeal(0);
        CHECKS.due("one top-up, for 100 was left", x.judge(0, 1), 1);
        CHECKS.due("two wait", x.count(7), 2);
        CHECKS.due("nothing to get", x.closeMonth(), 0);
        x.base(0, 99);
        CHECKS.due("one gets it", x.closeMonth(), 50);
        CHECKS.due("the lower number", x.complaint(2, 6), 150);
        CHECKS.due("49 do not", x.complaint(3, 10), 50);
        CHECKS.due("spent", x.kind(0, 2), 50);
        x.base(0, 50);
        CHECKS.due("the last one", x.closeMonth(), 50);
        CHECKS.due("nobody waits", x.count(7), 0);
        CHECKS.due("nothing to get", x.closeMonth(), 0);
    }

    private static void promise10LastMonth() {
        AmendsLedger x = new AmendsLedger();
        x.set(2, 100);
        x.base(0, 9999);
        for (int i = 0; i < 500; i++) {
            x.closeMonth();
        }
        CHECKS.due("month", x.count(5), 500);
        CHECKS.due("budget", x.kind(0, 1), 500 + 500 * 9999);
        CHECKS.refused("the month is 500", STATE, x::closeMonth);
        CHECKS.due("saved states", x.count(11), 6);
    }
}
