/** Ledgers for the tests of boundary cases, each made by the same calls every time. */
final class Ledgers {
    static final int FAR_BELOW = Integer.MIN_VALUE;
    static final int FAR_ABOVE = Integer.MAX_VALUE;

    private Ledgers() {
    }

    static void append(AmendsLedger x, String text) {
        for (int i = 0; i < text.length(); i++) {
            x.append(text.charAt(i));
        }
    }

    static void complain(AmendsLedger x, int count, int severity) {
        for (int i = 0; i < count; i++) {
            x.complain(0, severity, i % 10);
        }
    }

    /** Kind 0 has amends for these costs, for every severity. */
    static AmendsLedger offering(int... costs) {
        AmendsLedger x = new AmendsLedger();
        for (int cost : costs) {
            x.offer(0, cost, 1, 9);
        }
        return x;
    }

    /** Kind 0, and so many complaints that follow one precedent with the amends 0. */
    static AmendsLedger following(int complaints, int... costs) {
        AmendsLedger x = offering(costs);
        complain(x, complaints, 1);
        for (int i = 0; i < complaints; i++) {
            x.decide(i, 0, 0);
        }
        return x;
    }

    /** So many months are closed. */
    static AmendsLedger later(AmendsLedger x, int months) {
        for (int i = 0; i < months; i++) {
            x.closeMonth();
        }
        return x;
    }

    /** A month in which kind 0 has this budget, and nothing of it is spent. */
    static AmendsLedger withBudget(AmendsLedger x, int budget) {
        x.set(2, 0);
        x.base(0, budget);
        x.closeMonth();
        return x;
    }

    /**
     * Something of everything: six saved states, a text in the buffer, and in the month 2 the
     * complaints 0 (decided, topped up), 1 (judged), 2 (under appeal, waits for 10), 3 (departs),
     * 4 (set a later precedent) and 5 (open); 1 of the budget of kind 0 is left.
     */
    static AmendsLedger lived() {
        AmendsLedger x = offering(10, 20, 30);
        x.offer(0, 40, 4, 6);
        x.offer(0, 4, 1, 9);
        x.offer(1, 5, 1, 9);
        x.offer(2, 7, 1, 9);
        x.takeOff(2, 0);
        complain(x, 6, 5);
        x.decide(0, 0, 0);
        x.decide(1, 0, 0);
        x.decide(2, 0, 0);
        x.decide(3, 1, 2);
        x.appeal(1);
        x.appeal(2);
        withBudget(x, 0);
        withBudget(x, 25);
        x.judge(1, 1);
        x.decide(4, 4, 0);
        append(x, "k1s2c3;k");
        return x;
    }

    static AmendsLedger livedFullMenu() {
        AmendsLedger x = lived();
        x.offer(0, 50, 1, 9);
        return x;
    }

    static AmendsLedger lived24() {
        AmendsLedger x = lived();
        complain(x, 18, 5);
        return x;
    }

    static AmendsLedger livedFullBuffer() {
        AmendsLedger x = lived();
        append(x, "0s1c2;k0s1c2;k0s1c2;k0s1c2;k0s1c2;k0s1c2;k0s1c2;k0s1");
        return x;
    }

    /** As the one that lived, with another text in the buffer. */
    static AmendsLedger livedTelling(String text) {
        AmendsLedger x = lived();
        x.clearBuffer();
        append(x, text);
        return x;
    }

    /**
     * For reasons against decisions. Kind 0 has amends for 100 (severity 4 to 6), 100 (5 to 5),
     * 400, 401, 1 (taken off) and 999 (9 to 9). Complaint 0 has set a precedent with the amends 0,
     * and 400 is left; open are 1 (severity 5), 2 (4), 3 (6), 4 (3), 5 (7) and 6 (9).
     */
    static AmendsLedger toDecide() {
        AmendsLedger x = new AmendsLedger();
        x.offer(0, 100, 4, 6);
        x.offer(0, 100, 5, 5);
        x.offer(0, 400, 1, 9);
        x.offer(0, 401, 1, 9);
        x.offer(0, 1, 1, 9);
        x.offer(0, 999, 9, 9);
        x.takeOff(0, 4);
        for (int severity : new int[] {5, 5, 4, 6, 3, 7, 9}) {
            x.complain(0, severity, 0);
        }
        x.decide(0, 0, 0);
        return x;
    }

    /**
     * For reasons against judgements. Kind 0 has amends for 100, 99, 300 (severity 5 to 5), 301 (5
     * to 9), 98 (6 to 9) and 302 (1 to 4). All complaints have the severity 5; 0 has got 100 and is
     * under appeal, 1 is open, 2 decided, 3 judged; 200 is left.
     */
    static AmendsLedger toJudge() {
        AmendsLedger x = offering(100, 99);
        x.offer(0, 300, 5, 5);
        x.offer(0, 301, 5, 9);
        x.offer(0, 98, 6, 9);
        x.offer(0, 302, 1, 4);
        complain(x, 4, 5);
        x.decide(0, 0, 0);
        x.decide(2, 0, 0);
        x.decide(3, 0, 0);
        x.appeal(0);
        x.appeal(3);
        x.judge(3, 0);
        return x;
    }

    static AmendsLedger toJudgeWithout(int amends) {
        AmendsLedger x = toJudge();
        x.takeOff(0, amends);
        return x;
    }

    /**
     * 10 is left. The precedent has the amends 1 for 130; 0 (under appeal), 1 and 3 (judged) have
     * it, 2 has the amends 0 for 100 and waits for 30; the amends 2 costs as told.
     */
    static AmendsLedger raisedOnce(int cost) {
        AmendsLedger x = following(4, 100, 130, cost);
        x.appeal(3);
        x.judge(3, 1);
        x.appeal(0);
        return x;
    }

    /** Every one of 24 complaints has set a precedent, 12 in the month 0 and 12 in the month 1. */
    static AmendsLedger precedents24() {
        AmendsLedger x = new AmendsLedger();
        x.set(0, 1);
        for (int kind = 0; kind < 4; kind++) {
            x.offer(kind, 1 + kind, 1, 9);
        }
        for (int i = 0; i < 24; i++) {
            x.complain(i % 4, 1 + 3 * (i / 4 % 3), 9);
        }
        for (int i = 0; i < 24; i++) {
            if (i == 12) {
                x.closeMonth();
            }
            x.decide(i, 0, 0);
        }
        return x;
    }

    /** 24 follow a precedent, at no cost; the amends 1 costs 1, and the budget is 1. */
    static AmendsLedger followers24() {
        return withBudget(following(24, 0, 1), 1);
    }

    /** Of those 24 one is judged with the amends 1, and 23 wait for 1 each. */
    static AmendsLedger waiting23() {
        AmendsLedger x = followers24();
        x.appeal(23);
        x.judge(23, 1);
        return x;
    }

    /** One waits for so much; nothing is left, and the base is 1. */
    static AmendsLedger waitingFor(int difference) {
        AmendsLedger x = withBudget(following(2, 0, difference), difference);
        x.appeal(0);
        x.judge(0, 1);
        x.base(0, 1);
        return x;
    }
}
