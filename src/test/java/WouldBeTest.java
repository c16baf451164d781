/** Promises 23 to 28: what would be, shares and the digest. */
public final class WouldBeTest {
    private static final Class<IndexOutOfBoundsException> INDEX = IndexOutOfBoundsException.class;
    private static final Class<IllegalArgumentException> ARGUMENT = IllegalArgumentException.class;

    /** Worked out apart from the program, from the list in the document. */
    private static final long DIGEST_OF_NEW = -3508342908592606248L;

    private static final Checks CHECKS = new Checks("WouldBeTest");

    public static void main(String[] args) {
        promise23DecisionReasons();
        promise23JudgementReasons();
        promise23Refused();
        promise24Fair();
        promise24FairWithPrecedent();
        promise25IfJudged();
        promise25AsJudged();
        promise25Refused();
        promise26MonthsToEqual();
        promise26Limit();
        promise26LastMonth();
        promise27FollowShare();
        promise28NewDigest();
        promise28Digest();
        promise28EveryShare();
        CHECKS.end();
    }

    private static void promise23DecisionReasons() {
        AmendsLedger x = new AmendsLedger();
        x.offer(0, 300, 1, 9);
        x.offer(0, 301, 4, 6);
        x.offer(0, 200, 4, 6);
        x.complain(0, 4, 0);
        x.complain(0, 7, 0);
        x.complain(0, 6, 0);
        CHECKS.due("nothing against it", x.whyNot(0, 0, 0), 0);
        x.decide(0, 0, 0);
        CHECKS.due("1 before 2", x.whyNot(0, 9, 0), 1);
        CHECKS.due("2: amends -1", x.whyNot(1, -1, 0), 2);
        CHECKS.due("2: amends 3", x.whyNot(1, 3, 0), 2);
        CHECKS.due("2: far off", x.whyNot(1, Integer.MAX_VALUE, 0), 2);
        CHECKS.due("2: far off", x.whyNot(1, Integer.MIN_VALUE, 0), 2);
        CHECKS.due("3 before 5", x.whyNot(1, 1, 0), 3);
        CHECKS.due("4 before 5", x.whyNot(2, 1, 0), 4);
        CHECKS.due("5 with a reason", x.whyNot(2, 1, 1), 5);
        CHECKS.due("4 without one", x.whyNot(2, 2, 0), 4);
        CHECKS.due("all that is left", x.whyNot(2, 2, 5), 0);
        CHECKS.due("5 though it follows", x.whyNot(2, 0, 0), 5);
        CHECKS.due("5 without a precedent", x.whyNot(1, 0, 0), 5);
        x.takeOff(0, 1);
        CHECKS.due("2 before 3", x.whyNot(1, 1, 0), 2);
        x.takeOff(0, 0);
        CHECKS.due("a precedent that is not offered does not bind", x.whyNot(2, 2, 0), 0);
    }

    private static void promise23JudgementReasons() {
        AmendsLedger x = new AmendsLedger();
        x.offer(0, 300, 1, 9);
        x.offer(0, 501, 4, 9);
        x.offer(0, 200, 5, 6);
        x.offer(0, 299, 4, 6);
        x.offer(0, 500, 4, 6);
        x.complain(0, 4, 0);
        CHECKS.due("open", x.whyNot(0, 0, -1), 1);
        x.decide(0, 0, 0);
        CHECKS.due("decided", x.whyNot(0, 9, -1), 1);
        x.appeal(0);
        CHECKS.due("a decision of it", x.whyNot(0, 0, 0), 1);
        CHECKS.due("amends 5", x.whyNot(0, 5, -1), 2);
        CHECKS.due("amends -1", x.whyNot(0, -1, -1), 2);
        CHECKS.due("3 before 4", x.whyNot(0, 2, -1), 3);
        CHECKS.due("costs less by 1", x.whyNot(0, 3, -1), 4);
        CHECKS.due("the difference is too much by 1", x.whyNot(0, 1, -1), 5);
        CHECKS.due("all that is left", x.whyNot(0, 4, -1), 0);
        CHECKS.due("its own amends", x.whyNot(0, 0, -1), 0);
        x.takeOff(0, 1);
        CHECKS.due("not offered", x.whyNot(0, 1, -1), 2);
        x.judge(0, 0);
        CHECKS.due("judged", x.whyNot(0, 0, -1), 1);
    }

    private static void promise23Refused() {
        AmendsLedger x = new AmendsLedger();
        CHECKS.refused("complaint 0 of none", INDEX, () -> x.whyNot(0, 0, 9));
        x.complain(0, 1, 0);
        CHECKS.refused("complaint -1", INDEX, () -> x.whyNot(-1, 0, 0));
        CHECKS.refused("complaint 1", INDEX, () -> x.whyNot(1, 0, 0));
        CHECKS.refused("reason -2", ARGUMENT, () -> x.whyNot(0, 0, -2));
        CHECKS.refused("reason 6", ARGUMENT, () -> x.whyNot(0, 0, 6));
    }

    private static void promise24Fair() {
        AmendsLedger x = new AmendsLedger();
        x.complain(0, 5, 0);
        CHECKS.due("an empty menu", x.fair(0), -1);
        x.offer(0, 501, 1, 9);
        CHECKS.due("too dear", x.fair(0), -1);
        x.offer(0, 5, 6, 9);
        CHECKS.due("not for its severity", x.fair(0), -1);
        x.offer(0, 30, 1, 9);
        x.offer(0, 20, 1, 9);
        x.offer(0, 20, 1, 9);
        CHECKS.due("the cheapest, the lowest number", x.fair(0), 3);
        x.takeOff(0, 3);
        CHECKS.due("offered", x.fair(0), 4);
        x.decide(0, 2, 0);
        CHECKS.due("not open", x.fair(0), -1);
        CHECKS.refused("complaint -1", INDEX, () -> x.fair(-1));
        CHECKS.refused("complaint 1", INDEX, () -> x.fair(1));
    }

    private static void promise24FairWithPrecedent() {
        AmendsLedger x = new AmendsLedger();
        x.offer(0, 10, 1, 9);
        x.offer(0, 30, 1, 2);
        x.complain(0, 1, 0);
        x.complain(0, 2, 0);
        x.complain(0, 3, 0);
        x.decide(0, 1, 0);
        CHECKS.due("that of the precedent", x.fair(1), 1);
        CHECKS.due("the precedent's is not for its severity", x.fair(2), -1);
        x.closeMonth();
        CHECKS.due("binds still", x.fair(1), 1);
        x.closeMonth();
        CHECKS.due("binds no more", x.fair(1), 0);
    }

    /** Four follow a precedent for 100; 100 is left, and another kind has one that waits for 7. */
    private static AmendsLedger appealed() {
        AmendsLedger x = new AmendsLedger();
        x.offer(0, 100, 1, 9);
        x.offer(0, 130, 1, 9);
        x.offer(0, 160, 1, 9);
        x.offer(1, 250, 1, 9);
        x.offer(1, 257, 1, 9);
        for (int i = 0; i < 6; i++) {
            x.complain(i / 4, 1, i);
            x.decide(i, 0, 0);
        }
        x.set(2, 0);
        x.base(1, 7);
        x.closeMonth();
        x.base(1, 0);
        x.appeal(4);
        x.judge(4, 1);
        x.base(0, 100);
        x.closeMonth();
        x.set(1, 3);
        x.appeal(1);
        return x;
    }

    private static void promise25IfJudged() {
        AmendsLedger x = appealed();
        int[][] wanted = {{0, 0, 1, 7}, {90, 2, 2, 37}, {60, 0, 4, 187}, {-1, -1, -1, -1}};
        for (int amends = 0; amends < 4; amends++) {
            for (int what = 0; what <= 3; what++) {
                CHECKS.due("ifJudged(1, " + amends + ", " + what + ")",
                        x.ifJudged(1, amends, what), wanted[amends][what]);
                CHECKS.due("not under appeal", x.ifJudged(0, amends, what), -1);
                CHECKS.due("perhaps no amends", x.ifJudged(1, -1 - amends, what), -1);
            }
        }
        CHECKS.due("nothing is spent", x.kind(0, 2), 0);
    }

    private static void promise25AsJudged() {
        for (int amends = 0; amends < 3; amends++) {
            AmendsLedger x = appealed();
            int before = x.count(6);
            int spent = x.ifJudged(1, amends, 0);
            int topUps = x.ifJudged(1, amends, 1);
            int waiting = x.ifJudged(1, amends, 2);
            int owed = x.ifJudged(1, amends, 3);
            CHECKS.due("top-ups", x.judge(1, amends), topUps);
            CHECKS.due("spent", x.count(6) - before, spent);
            CHECKS.due("waiting", x.count(7), waiting);
            CHECKS.due("waited for", x.kind(0, 7) + x.kind(1, 7), owed);
        }
    }

    private static void promise25Refused() {
        AmendsLedger x = appealed();
        CHECKS.refused("complaint -1", INDEX, () -> x.ifJudged(-1, 0, 0));
        CHECKS.refused("complaint 6", INDEX, () -> x.ifJudged(6, 0, 4));
        CHECKS.refused("what -1", ARGUMENT, () -> x.ifJudged(1, 0, -1));
        CHECKS.refused("what 4", ARGUMENT, () -> x.ifJudged(1, 0, 4));
        CHECKS.refused("what 4 of an open one", ARGUMENT, () -> x.ifJudged(0, 9, 4));
    }

    /** One waits for 100, when nothing is left and nothing is carried over but by the setting. */
    private static AmendsLedger waiting() {
        AmendsLedger x = new AmendsLedger();
        x.offer(0, 150, 1, 9);
        x.offer(0, 250, 1, 9);
        for (int i = 0; i < 3; i++) {
            x.complain(0, 1, i);
            x.decide(i, 0, 0);
        }
        x.base(0, 0);
        x.closeMonth();
        x.base(0, 200);
        x.set(2, 0);
        x.closeMonth();
        x.set(1, 3);
        x.appeal(0);
        x.judge(0, 1);
        return x;
    }

    private static void promise26MonthsToEqual() {
        AmendsLedger x = waiting();
        CHECKS.due("one waits", x.count(7), 1);
        CHECKS.due("next month", x.monthsToEqual(), 1);
        x.base(0, 99);
        CHECKS.due("99 a month are never enough", x.monthsToEqual(), -1);
        x.set(2, 100);
        CHECKS.due("two months of 99", x.monthsToEqual(), 2);
        x.set(2, 1);
        CHECKS.due("99 and a hundredth of 99, rounded down", x.monthsToEqual(), -1);
        x.base(0, 25);
        x.set(2, 100);
        CHECKS.due("four months of 25", x.monthsToEqual(), 4);
        CHECKS.due("nothing is changed", x.count(5), 2);
        for (int i = 0; i < 4; i++) {
            CHECKS.due("months left", x.monthsToEqual(), 4 - i);
            x.closeMonth();
        }
        CHECKS.due("nobody waits", x.monthsToEqual(), 0);
        CHECKS.due("a new one", new AmendsLedger().monthsToEqual(), 0);
    }

    private static void promise26Limit() {
        AmendsLedger x = waiting();
        x.set(2, 100);
        x.base(0, 4);
        CHECKS.due("25 are more than 24", x.monthsToEqual(), -1);
        x.closeMonth();
        CHECKS.due("24 are not", x.monthsToEqual(), 24);
        x.closeMonth();
        CHECKS.due("23", x.monthsToEqual(), 23);
    }

    private static void promise26LastMonth() {
        AmendsLedger x = waiting();
        x.base(0, 0);
        for (int i = 2; i < 485; i++) {
            x.closeMonth();
        }
        x.base(0, 5);
        x.set(2, 100);
        CHECKS.due("the month", x.count(5), 485);
        CHECKS.due("the limit of 500 does not matter", x.monthsToEqual(), 20);
    }

    private static void promise27FollowShare() {
        AmendsLedger x = new AmendsLedger();
        CHECKS.due("none", x.followShare(), 1.0);
        x.offer(0, 1, 1, 9);
        x.offer(0, 2, 1, 9);
        for (int i = 0; i < 7; i++) {
            x.complain(0, 1, 0);
        }
        CHECKS.due("open ones", x.followShare(), 1.0);
        x.decide(0, 0, 0);
        CHECKS.due("1 of 1", x.followShare(), 1.0);
        x.decide(1, 1, 1);
        CHECKS.due("1 of 2", x.followShare(), 0.5);
        x.decide(2, 1, 1);
        CHECKS.due("1 of 3", x.followShare(), 1.0 / 3.0);
        x.decide(3, 0, 0);
        x.decide(4, 1, 2);
        CHECKS.due("2 of 5", x.followShare(), 0.4);
        x.appeal(4);
        x.judge(4, 1);
        CHECKS.due("a judged one departs still", x.followShare(), 0.4);
        x.decide(5, 0, 0);
        CHECKS.due("3 of 6", x.followShare(), 0.5);
    }

    private static void promise28NewDigest() {
        CHECKS.due("digest of a new one", new AmendsLedger().digest(), DIGEST_OF_NEW);
        AmendsLedger x = new AmendsLedger();
        x.append(107);
        CHECKS.due("the buffer counts", x.digest(), 31 * (DIGEST_OF_NEW + 1) + 107);
        x.clearBuffer();
        CHECKS.due("cleared", x.digest(), DIGEST_OF_NEW);
    }

    private static void promise28Digest() {
        AmendsLedger[] all = {new AmendsLedger(), appealed(), waiting(), bound()};
        for (AmendsLedger x : all) {
            long digest = x.digest();
            CHECKS.due("digest changes nothing", x.digest(), digest);
            CHECKS.due("digest", digest, listed(x, ""));
        }
        AmendsLedger x = appealed();
        String text = "k0s1c!";
        for (int i = 0; i < text.length(); i++) {
            x.append(text.charAt(i));
        }
        CHECKS.due("digest with a text", x.digest(), listed(x, text));
    }

    /** An open complaint for which a precedent binds that has the amends 1. */
    private static AmendsLedger bound() {
        AmendsLedger x = new AmendsLedger();
        x.offer(3, 10, 1, 9);
        x.offer(3, 20, 1, 9);
        x.complain(3, 8, 0);
        x.complain(3, 9, 1);
        x.decide(0, 1, 0);
        return x;
    }

    /** Each share of up to 24 decisions: the program works its bits out by itself. */
    private static void promise28EveryShare() {
        for (int following = 1; following <= 24; following++) {
            AmendsLedger x = new AmendsLedger();
            Model model = new Model();
            for (int cost = 1; cost <= 2; cost++) {
                x.offer(0, cost, 1, 9);
                model.offer(0, cost, 1, 9);
            }
            for (int i = 0; i < 24; i++) {
                int amends = i < following ? 0 : 1;
                x.complain(0, 1, 0);
                model.complain(0, 1, 0);
                x.decide(i, amends, 1);
                model.decide(i, amends, 1);
                CHECKS.due("digest", x.digest(), model.digest());
            }
        }
    }

    /** The document's list, from the answers of the object itself. */
    private static long listed(AmendsLedger x, String text) {
        long hash = 2539;
        for (int what = 0; what <= 11; what++) {
            hash = 31 * hash + x.count(what);
        }
        for (int i = 0; i < 3; i++) {
            hash = 31 * hash + x.setting(i);
        }
        for (int kind = 0; kind < 4; kind++) {
            hash = kindListed(x, hash, kind);
        }
        for (int i = 0; i < x.count(0); i++) {
            for (int what = 0; what <= 10; what++) {
                hash = 31 * hash + x.complaint(i, what);
            }
            hash = 31 * hash + x.fair(i);
            hash = 31 * hash + x.whyNot(i, 0, 0);
            for (int what = 0; what <= 3; what++) {
                hash = 31 * hash + x.ifJudged(i, 1, what);
            }
        }
        for (int customer = 0; customer < 10; customer++) {
            hash = 31 * hash + x.ofCustomer(customer, 0);
        }
        hash = 31 * hash + x.monthsToEqual();
        hash = 31 * hash + Double.doubleToLongBits(x.followShare());
        hash = 31 * hash + text.length();
        for (int i = 0; i < text.length(); i++) {
            hash = 31 * hash + text.charAt(i);
        }
        return hash;
    }

    private static long kindListed(AmendsLedger x, long before, int kind) {
        long hash = before;
        for (int what = 0; what <= 7; what++) {
            hash = 31 * hash + x.kind(kind, what);
        }
        for (int amends = 0; amends < x.kind(kind, 4); amends++) {
            for (int what = 0; what <= 4; what++) {
                hash = 31 * hash + x.amends(kind, amends, what);
            }
        }
        for (int group = 0; group < 3; group++) {
            for (int what = 0; what <= 4; what++) {
                hash = 31 * hash + x.precedent(kind, group, what);
            }
        }
        return hash;
    }
}
