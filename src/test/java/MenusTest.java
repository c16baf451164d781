/** Promises 1 to 5: a new object, menus, bases and settings. */
public final class MenusTest {
    private static final Class<IndexOutOfBoundsException> INDEX = IndexOutOfBoundsException.class;
    private static final Class<IllegalArgumentException> ARGUMENT = IllegalArgumentException.class;
    private static final Class<IllegalStateException> STATE = IllegalStateException.class;

    private static final Checks CHECKS = new Checks("MenusTest");

    public static void main(String[] args) {
        promise1NewObject();
        promise2Offer();
        promise2OfferRefused();
        promise3TakeOff();
        promise3TakeOffRefused();
        promise4Base();
        promise5Set();
        promise5SetRefused();
        CHECKS.end();
    }

    private static void promise1NewObject() {
        AmendsLedger x = new AmendsLedger();
        CHECKS.due("NONE", AmendsLedger.NONE, -1);
        for (int what = 0; what <= 11; what++) {
            CHECKS.due("count of a new one", x.count(what), 0);
        }
        int[] numbers = {500, 500, 0, 500, 0, 0, 0, 0};
        for (int kind = 0; kind < 4; kind++) {
            for (int what = 0; what < 8; what++) {
                CHECKS.due("kind of a new one", x.kind(kind, what), numbers[what]);
            }
        }
        CHECKS.due("setting 0", x.setting(0), 2);
        CHECKS.due("setting 1", x.setting(1), 1);
        CHECKS.due("setting 2", x.setting(2), 50);
        CHECKS.due("an empty buffer", x.clearBuffer(), 0);
        CHECKS.refused("undo of nothing", STATE, x::undo);
        x.offer(0, 1, 1, 9);
        CHECKS.due("objects stand apart", new AmendsLedger().kind(0, 4), 0);
    }

    private static void promise2Offer() {
        AmendsLedger x = new AmendsLedger();
        CHECKS.due("offer", x.offer(0, 0, 1, 1), 0);
        CHECKS.due("offer", x.offer(0, 999, 9, 9), 1);
        CHECKS.due("another menu counts for itself", x.offer(3, 7, 2, 5), 0);
        CHECKS.due("cost", x.amends(3, 0, 0), 7);
        CHECKS.due("least", x.amends(3, 0, 1), 2);
        CHECKS.due("most", x.amends(3, 0, 2), 5);
        CHECKS.due("offered", x.amends(3, 0, 3), 1);
        CHECKS.due("least of the second", x.amends(0, 1, 1), 9);
        CHECKS.due("saved states", x.count(11), 3);
        x.undo();
        CHECKS.due("undone", x.kind(3, 4), 0);
        CHECKS.due("not undone", x.kind(0, 4), 2);
        for (int i = 2; i < 6; i++) {
            CHECKS.due("offer", x.offer(0, 5, 1, 9), i);
        }
        long before = x.digest();
        CHECKS.refused("a full menu", STATE, () -> x.offer(0, 5, 1, 9));
        CHECKS.due("nothing is changed", x.digest(), before);
        x.takeOff(0, 0);
        CHECKS.refused("a menu is full with those taken off", STATE, () -> x.offer(0, 5, 1, 9));
        CHECKS.refused("kind before the rest", INDEX, () -> x.offer(4, 1000, 1, 9));
        CHECKS.refused("arguments before the state", ARGUMENT, () -> x.offer(0, 1000, 1, 9));
    }

    private static void promise2OfferRefused() {
        AmendsLedger x = new AmendsLedger();
        CHECKS.refused("offer(-1,..)", INDEX, () -> x.offer(-1, 0, 1, 1));
        CHECKS.refused("offer(4,..)", INDEX, () -> x.offer(4, 0, 1, 1));
        CHECKS.refused("cost -1", ARGUMENT, () -> x.offer(0, -1, 1, 1));
        CHECKS.refused("cost 1000", ARGUMENT, () -> x.offer(0, 1000, 1, 1));
        CHECKS.refused("least 0", ARGUMENT, () -> x.offer(0, 0, 0, 1));
        CHECKS.refused("least 10", ARGUMENT, () -> x.offer(0, 0, 10, 10));
        CHECKS.refused("most below least", ARGUMENT, () -> x.offer(0, 0, 5, 4));
        CHECKS.refused("most 10", ARGUMENT, () -> x.offer(0, 0, 9, 10));
        CHECKS.refused("far off", ARGUMENT,
                () -> x.offer(0, Integer.MIN_VALUE, Integer.MIN_VALUE, Integer.MAX_VALUE));
        CHECKS.due("nothing was saved", x.count(11), 0);
    }

    private static void promise3TakeOff() {
        AmendsLedger x = new AmendsLedger();
        x.offer(1, 10, 1, 9);
        x.offer(1, 20, 1, 9);
        x.offer(1, 30, 1, 9);
        CHECKS.due("takeOff", x.takeOff(1, 1), 2);
        CHECKS.due("not offered", x.amends(1, 1, 3), 0);
        CHECKS.due("its number stays", x.amends(1, 2, 0), 30);
        CHECKS.due("the menu keeps it", x.kind(1, 4), 3);
        CHECKS.due("the next number", x.offer(1, 40, 1, 9), 3);
        CHECKS.due("takeOff", x.takeOff(1, 0), 2);
        CHECKS.due("takeOff", x.takeOff(1, 3), 1);
        CHECKS.due("takeOff", x.takeOff(1, 2), 0);
        CHECKS.due("undo", x.undo(), 5);
        CHECKS.due("offered again", x.amends(1, 2, 3), 1);
    }

    private static void promise3TakeOffRefused() {
        AmendsLedger x = new AmendsLedger();
        CHECKS.refused("an empty menu", INDEX, () -> x.takeOff(0, 0));
        x.offer(0, 10, 1, 9);
        CHECKS.refused("kind -1", INDEX, () -> x.takeOff(-1, 0));
        CHECKS.refused("kind 4", INDEX, () -> x.takeOff(4, 0));
        CHECKS.refused("amends -1", INDEX, () -> x.takeOff(0, -1));
        CHECKS.refused("amends 1", INDEX, () -> x.takeOff(0, 1));
        CHECKS.refused("another kind's", INDEX, () -> x.takeOff(1, 0));
        x.takeOff(0, 0);
        CHECKS.refused("taken off before", STATE, () -> x.takeOff(0, 0));
        CHECKS.due("nothing was saved by these", x.count(11), 2);
    }

    private static void promise4Base() {
        AmendsLedger x = new AmendsLedger();
        CHECKS.due("base", x.base(2, 0), 500);
        CHECKS.due("base", x.base(2, 9999), 0);
        CHECKS.due("base", x.base(2, 9999), 9999);
        CHECKS.due("the new base", x.kind(2, 0), 9999);
        CHECKS.due("the budget stays", x.kind(2, 1), 500);
        CHECKS.due("another kind", x.kind(1, 0), 500);
        CHECKS.due("saved, also if nothing is changed", x.count(11), 3);
        CHECKS.refused("kind -1", INDEX, () -> x.base(-1, 10000));
        CHECKS.refused("kind 4", INDEX, () -> x.base(4, 0));
        CHECKS.refused("base -1", ARGUMENT, () -> x.base(0, -1));
        CHECKS.refused("base 10000", ARGUMENT, () -> x.base(0, 10000));
        x.undo();
        x.undo();
        CHECKS.due("undone", x.kind(2, 0), 0);
        x.closeMonth();
        CHECKS.due("base and half of 500", x.kind(2, 1), 250);
    }

    private static void promise5Set() {
        AmendsLedger x = new AmendsLedger();
        CHECKS.due("set", x.set(0, 1), 2);
        CHECKS.due("set", x.set(0, 6), 1);
        CHECKS.due("set", x.set(1, 0), 1);
        CHECKS.due("set", x.set(1, 3), 0);
        CHECKS.due("set", x.set(2, 0), 50);
        CHECKS.due("set", x.set(2, 100), 0);
        CHECKS.due("setting 0", x.setting(0), 6);
        CHECKS.due("setting 1", x.setting(1), 3);
        CHECKS.due("setting 2", x.setting(2), 100);
        CHECKS.due("set to the same", x.set(2, 100), 100);
        CHECKS.due("undo", x.undo(), 5);
        CHECKS.due("undo", x.undo(), 4);
        CHECKS.due("undone", x.setting(2), 0);
    }

    private static void promise5SetRefused() {
        AmendsLedger x = new AmendsLedger();
        CHECKS.refused("setting -1", INDEX, () -> x.set(-1, -1));
        CHECKS.refused("setting 3", INDEX, () -> x.set(3, 1));
        int[][] wrong = {{0, 0}, {0, 7}, {1, -1}, {1, 4}, {2, -1}, {2, 101}};
        for (int[] pair : wrong) {
            CHECKS.refused("set " + pair[0] + " " + pair[1], ARGUMENT,
                    () -> x.set(pair[0], pair[1]));
        }
        CHECKS.due("nothing was saved", x.count(11), 0);
    }
}
