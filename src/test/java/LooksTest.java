/** Promises 16 to 22: the looks. */
public final class LooksTest {
    private static final Class<IndexOutOfBoundsException> INDEX = IndexOutOfBoundsException.class;
    private static final Class<IllegalArgumentException> ARGUMENT = IllegalArgumentException.class;

    private static final Checks CHECKS = new Checks("LooksTest");

    public static void main(String[] args) {
        promise16Complaint();
        promise16Refused();
        promise17Amends();
        promise17Refused();
        promise18Precedent();
        promise18Refused();
        promise19Kind();
        promise20Count();
        promise20UnequalPairs();
        promise21Setting();
        promise22OfCustomer();
        CHECKS.end();
    }

    /**
     * Kind 2 with amends for 10, 20 and 200. Complaints 0 to 3 follow one precedent, 4 departs from
     * it, 5 is open; 1 was judged with the amends 2, which made 0 wait no more, but 2 and 3 wait.
     */
    private static AmendsLedger full() {
        AmendsLedger x = new AmendsLedger();
        x.offer(2, 10, 4, 9);
        x.offer(2, 20, 1, 9);
        x.offer(2, 200, 4, 6);
        for (int i = 0; i < 6; i++) {
            x.complain(2, 4 + i % 3, 9 - i);
        }
        x.closeMonth();
        x.base(2, 0);
        x.set(2, 64);
        x.set(1, 3);
        x.set(0, 6);
        x.closeMonth();
        for (int i = 0; i < 4; i++) {
            x.decide(i, 0, 0);
        }
        x.decide(4, 1, 5);
        x.appeal(1);
        x.appeal(3);
        x.judge(1, 2);
        return x;
    }

    private static void promise16Complaint() {
        AmendsLedger x = full();
        int[][] wanted = {
            {2, 4, 9, 1, 1, 2, 200, 0, 2, 1, 0},
            {2, 5, 8, 1, 3, 2, 200, 0, 2, 2, 0},
            {2, 6, 7, 1, 1, 0, 10, 0, 2, 2, 190},
            {2, 4, 6, 1, 2, 0, 10, 0, 2, 2, 190},
            {2, 5, 5, 1, 1, 1, 20, 5, 2, 3, 0},
            {2, 6, 4, 1, 0, -1, 0, -1, -1, 0, 0}};
        for (int i = 0; i < wanted.length; i++) {
            for (int what = 0; what <= 10; what++) {
                CHECKS.due("complaint(" + i + ", " + what + ")", x.complaint(i, what),
                        wanted[i][what]);
            }
        }
        for (int severity = 1; severity <= 9; severity++) {
            AmendsLedger y = new AmendsLedger();
            y.complain(0, severity, 0);
            CHECKS.due("class of " + severity, y.complaint(0, 3),
                    severity < 4 ? 0 : severity < 7 ? 1 : 2);
        }
    }

    private static void promise16Refused() {
        AmendsLedger x = full();
        CHECKS.refused("complaint -1", INDEX, () -> x.complaint(-1, 0));
        CHECKS.refused("complaint 6", INDEX, () -> x.complaint(6, 11));
        CHECKS.refused("complaint 24", INDEX, () -> x.complaint(24, 0));
        CHECKS.refused("what -1", ARGUMENT, () -> x.complaint(0, -1));
        CHECKS.refused("what 11", ARGUMENT, () -> x.complaint(0, 11));
    }

    private static void promise17Amends() {
        AmendsLedger x = full();
        x.takeOff(2, 0);
        int[][] wanted = {{10, 4, 9, 0, 2}, {20, 1, 9, 1, 1}, {200, 4, 6, 1, 2}};
        for (int i = 0; i < wanted.length; i++) {
            for (int what = 0; what <= 4; what++) {
                CHECKS.due("amends(2, " + i + ", " + what + ")", x.amends(2, i, what),
                        wanted[i][what]);
            }
        }
        x.offer(0, 0, 1, 9);
        CHECKS.due("another kind's are not counted", x.amends(0, 0, 4), 0);
    }

    private static void promise17Refused() {
        AmendsLedger x = full();
        CHECKS.refused("kind -1", INDEX, () -> x.amends(-1, 0, 0));
        CHECKS.refused("kind 4", INDEX, () -> x.amends(4, 0, 0));
        CHECKS.refused("amends -1", INDEX, () -> x.amends(2, -1, 0));
        CHECKS.refused("amends 3", INDEX, () -> x.amends(2, 3, 9));
        CHECKS.refused("none in the menu", INDEX, () -> x.amends(0, 0, 0));
        CHECKS.refused("what -1", ARGUMENT, () -> x.amends(2, 0, -1));
        CHECKS.refused("what 5", ARGUMENT, () -> x.amends(2, 0, 5));
    }

    private static void promise18Precedent() {
        AmendsLedger x = full();
        int[] wanted = {2, 2, 0, 1, 4};
        for (int what = 0; what <= 4; what++) {
            CHECKS.due("precedent(2, 1, " + what + ")", x.precedent(2, 1, what), wanted[what]);
            CHECKS.due("never one of the class", x.precedent(2, 0, what), -1);
            CHECKS.due("never one of the kind", x.precedent(0, 1, what), -1);
        }
        x.takeOff(2, 2);
        CHECKS.due("does not bind", x.precedent(2, 1, 3), 0);
        CHECKS.due("but is the latest", x.precedent(2, 1, 4), 4);
    }

    private static void promise18Refused() {
        AmendsLedger x = full();
        CHECKS.refused("kind -1", INDEX, () -> x.precedent(-1, 0, 0));
        CHECKS.refused("kind 4", INDEX, () -> x.precedent(4, 0, 0));
        CHECKS.refused("class -1", INDEX, () -> x.precedent(0, -1, 0));
        CHECKS.refused("class 3", INDEX, () -> x.precedent(0, 3, 9));
        CHECKS.refused("what -1", ARGUMENT, () -> x.precedent(2, 1, -1));
        CHECKS.refused("what 5", ARGUMENT, () -> x.precedent(2, 1, 5));
        CHECKS.refused("what 5 of none", ARGUMENT, () -> x.precedent(0, 0, 5));
    }

    private static void promise19Kind() {
        AmendsLedger x = full();
        int[] wanted = {0, 480, 440, 40, 3, 6, 440, 380};
        int[] idle = {500, 980, 0, 980, 0, 0, 0, 0};
        for (int what = 0; what <= 7; what++) {
            CHECKS.due("kind(2, " + what + ")", x.kind(2, what), wanted[what]);
            CHECKS.due("kind(1, " + what + ")", x.kind(1, what), idle[what]);
        }
        CHECKS.refused("kind -1", INDEX, () -> x.kind(-1, 0));
        CHECKS.refused("kind 4", INDEX, () -> x.kind(4, 8));
        CHECKS.refused("what -1", ARGUMENT, () -> x.kind(0, -1));
        CHECKS.refused("what 8", ARGUMENT, () -> x.kind(0, 8));
        x.takeOff(2, 1);
        CHECKS.due("menu with those taken off", x.kind(2, 4), 3);
    }

    private static void promise20Count() {
        AmendsLedger x = full();
        int[] wanted = {6, 1, 3, 1, 1, 2, 440, 2, 1, 1, 4, 6};
        for (int what = 0; what <= 11; what++) {
            CHECKS.due("count(" + what + ")", x.count(what), wanted[what]);
        }
        CHECKS.refused("what -1", ARGUMENT, () -> x.count(-1));
        CHECKS.refused("what 12", ARGUMENT, () -> x.count(12));
    }

    private static void promise20UnequalPairs() {
        AmendsLedger x = full();
        x.complain(2, 6, 0);
        x.decide(6, 0, 1);
        CHECKS.due("a departing one is alike to none", x.count(10), 4);
        x.undo();
        x.undo();
        x.undo();
        CHECKS.due("all got the same", x.count(10), 0);
        x.judge(1, 1);
        CHECKS.due("all got the same again", x.count(10), 0);
    }

    private static void promise21Setting() {
        AmendsLedger x = full();
        CHECKS.due("setting 0", x.setting(0), 6);
        CHECKS.due("setting 1", x.setting(1), 3);
        CHECKS.due("setting 2", x.setting(2), 64);
        CHECKS.refused("setting -1", INDEX, () -> x.setting(-1));
        CHECKS.refused("setting 3", INDEX, () -> x.setting(3));
    }

    private static void promise22OfCustomer() {
        AmendsLedger x = new AmendsLedger();
        int[] customers = {3, 9, 3, 0, 3};
        for (int customer : customers) {
            x.complain(1, 1, customer);
        }
        CHECKS.due("first", x.ofCustomer(3, 0), 0);
        CHECKS.due("second", x.ofCustomer(3, 1), 2);
        CHECKS.due("third", x.ofCustomer(3, 2), 4);
        CHECKS.due("not so many", x.ofCustomer(3, 3), -1);
        CHECKS.due("another", x.ofCustomer(9, 0), 1);
        CHECKS.due("another", x.ofCustomer(0, 0), 3);
        CHECKS.due("without any", x.ofCustomer(5, 0), -1);
        CHECKS.due("the last place", x.ofCustomer(3, 23), -1);
        CHECKS.refused("customer -1", INDEX, () -> x.ofCustomer(-1, 0));
        CHECKS.refused("customer 10", INDEX, () -> x.ofCustomer(10, 24));
        CHECKS.refused("place -1", ARGUMENT, () -> x.ofCustomer(3, -1));
        CHECKS.refused("place 24", ARGUMENT, () -> x.ofCustomer(3, 24));
    }
}
