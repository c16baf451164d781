/** Boundary cases of the promises 1 to 5: a new object, menus, bases and settings. */
public final class EdgesOfMenusTest {
    private static final int[] NO_KIND = {Ledgers.FAR_BELOW, -1, 4, Ledgers.FAR_ABOVE};

    private static final Edges EDGES = new Edges("EdgesOfMenusTest");

    public static void main(String[] args) {
        promise1WithoutComplaints();
        promise1WithoutAmends();
        promise1InTheMonth0();
        promise1BaseAndBudget();
        promise1WithAnEmptyBuffer();
        promise1NothingIsSaved();
        promise2Kind();
        promise2Cost();
        promise2Least();
        promise2Most();
        promise2ItsNumber();
        promise2TheMenuHas6();
        promise2FullWithThoseTakenOff();
        promise2FirstNamed();
        promise2Undoable();
        promise3Kind();
        promise3ItsNumber();
        promise3HowManyAreOfferedThen();
        promise3NotOffered();
        promise3FirstNamed();
        promise3Undoable();
        promise4Kind();
        promise4Base();
        promise4BudgetStays();
        promise4PreviousBase();
        promise4FirstNamed();
        promise4Undoable();
        promise5Setting();
        promise5Value();
        promise5PreviousValue();
        promise5FirstNamed();
        promise5Undoable();
        EDGES.end();
    }

    // ---- promise 1

    private static void promise1WithoutComplaints() {
        EDGES.promise(1, "without complaints");
        AmendsLedger x = new AmendsLedger();
        for (int what : new int[] {0, 1, 2, 3, 4, 6, 7, 8, 9, 10}) {
            EDGES.due("count(" + what + ")", x.count(what), 0);
        }
        for (int customer = 0; customer <= 9; customer++) {
            EDGES.due("ofCustomer", x.ofCustomer(customer, 0), -1);
        }
        EDGES.due("monthsToEqual", x.monthsToEqual(), 0);
        EDGES.due("followShare", x.followShare(), 1.0);
        EDGES.index("decide", AmendsLedger::new, y -> y.decide(0, 0, 0));
        EDGES.index("appeal", AmendsLedger::new, y -> y.appeal(0));
        EDGES.index("judge", AmendsLedger::new, y -> y.judge(0, 0));
        EDGES.index("complaint", AmendsLedger::new, y -> y.complaint(0, 0));
        EDGES.index("whyNot", AmendsLedger::new, y -> y.whyNot(0, 0, 0));
        EDGES.index("fair", AmendsLedger::new, y -> y.fair(0));
        EDGES.index("ifJudged", AmendsLedger::new, y -> y.ifJudged(0, 0, 0));
    }

    private static void promise1WithoutAmends() {
        EDGES.promise(1, "and amends");
        for (int i = 0; i < 4; i++) {
            int kind = i;
            AmendsLedger x = new AmendsLedger();
            EDGES.due("amends on the menu", x.kind(kind, 4), 0);
            for (int group = 0; group <= 2; group++) {
                EDGES.due("precedent", x.precedent(kind, group, 0), -1);
            }
            EDGES.index("amends", AmendsLedger::new, y -> y.amends(kind, 0, 0));
            EDGES.index("takeOff", AmendsLedger::new, y -> y.takeOff(kind, 0));
        }
    }

    private static void promise1InTheMonth0() {
        EDGES.promise(1, "in the month 0");
        EDGES.due("the month", new AmendsLedger().count(5), 0);
        AmendsLedger x = Ledgers.following(1, 0);
        EDGES.due("a decision's month", x.complaint(0, 8), 0);
        EDGES.due("a precedent's month", x.precedent(0, 0, 1), 0);
    }

    private static void promise1BaseAndBudget() {
        EDGES.terms("1", "A kind has a base, .. at first 500, and a budget .., at first 500");
        for (int kind = 0; kind < 4; kind++) {
            AmendsLedger x = new AmendsLedger();
            EDGES.due("its base at first", x.kind(kind, 0), 500);
            EDGES.due("its budget at first", x.kind(kind, 1), 500);
            EDGES.due("nothing is spent", x.kind(kind, 2), 0);
            EDGES.due("all is left", x.kind(kind, 3), 500);
        }
    }

    private static void promise1WithAnEmptyBuffer() {
        EDGES.promise(1, "with an empty buffer");
        EDGES.due("firstError", new AmendsLedger().firstError(), 0);
        EDGES.due("clearBuffer", new AmendsLedger().clearBuffer(), 0);
        EDGES.argument("complainAll", AmendsLedger::new, AmendsLedger::complainAll);
        EDGES.due("append", new AmendsLedger().append('k'), 1);
    }

    private static void promise1NothingIsSaved() {
        EDGES.promise(1, "Creates a ledger");
        EDGES.due("NONE", AmendsLedger.NONE, -1);
        EDGES.due("saved states", new AmendsLedger().count(11), 0);
        EDGES.state("undo", AmendsLedger::new, AmendsLedger::undo);
    }

    // ---- promise 2

    private static void promise2Kind() {
        EDGES.promise(2, "`kind`: 0 to 3");
        for (int kind = 0; kind <= 3; kind++) {
            AmendsLedger x = new AmendsLedger();
            int told = kind;
            EDGES.allowed("kind " + kind, () -> x.offer(told, 5, 1, 9), 0);
            for (int other = 0; other <= 3; other++) {
                EDGES.due("the menu of " + other, x.kind(other, 4), other == kind ? 1 : 0);
            }
        }
        for (int kind : NO_KIND) {
            EDGES.index("kind " + kind, Ledgers::lived, x -> x.offer(kind, 5, 1, 9));
        }
    }

    private static void promise2Cost() {
        EDGES.promise(2, "`cost`: 0 to 999");
        for (int cost : new int[] {0, 1, 998, 999}) {
            AmendsLedger x = new AmendsLedger();
            EDGES.allowed("cost " + cost, () -> x.offer(0, cost, 1, 9), 0);
            EDGES.due("its cost", x.amends(0, 0, 0), cost);
        }
        for (int cost : new int[] {Ledgers.FAR_BELOW, -1, 1000, Ledgers.FAR_ABOVE}) {
            EDGES.argument("cost " + cost, Ledgers::lived, x -> x.offer(0, cost, 1, 9));
        }
    }

    private static void promise2Least() {
        EDGES.promise(2, "`least`: the least severity, 1 to 9");
        for (int least = 1; least <= 9; least++) {
            AmendsLedger x = new AmendsLedger();
            int told = least;
            EDGES.allowed("least " + least, () -> x.offer(0, 5, told, 9), 0);
            EDGES.due("its least severity", x.amends(0, 0, 1), least);
        }
        for (int least : new int[] {Ledgers.FAR_BELOW, -1, 0, 10, Ledgers.FAR_ABOVE}) {
            EDGES.argument("least " + least, Ledgers::lived, x -> x.offer(0, 5, least, 9));
            EDGES.argument("least and most " + least, Ledgers::lived,
                    x -> x.offer(0, 5, least, least));
        }
    }

    private static void promise2Most() {
        EDGES.promise(2, "`most`: the greatest severity, least to 9");
        for (int i = 1; i <= 9; i++) {
            int least = i;
            AmendsLedger x = new AmendsLedger();
            EDGES.allowed("most as least " + least, () -> x.offer(0, 5, least, least), 0);
            EDGES.allowed("most 9", () -> x.offer(0, 5, least, 9), 1);
            EDGES.due("its greatest severity", x.amends(0, 0, 2), least);
            EDGES.due("its greatest severity", x.amends(0, 1, 2), 9);
            EDGES.argument("most below least " + least, Ledgers::lived,
                    y -> y.offer(0, 5, least, least - 1));
            EDGES.argument("most 10", Ledgers::lived, y -> y.offer(0, 5, least, 10));
        }
        for (int most : new int[] {Ledgers.FAR_BELOW, -1, 0, Ledgers.FAR_ABOVE}) {
            EDGES.argument("most " + most, Ledgers::lived, x -> x.offer(0, 5, 1, most));
        }
    }

    private static void promise2ItsNumber() {
        EDGES.promise(2, "Returns its number.");
        for (int kind = 0; kind <= 3; kind++) {
            AmendsLedger x = new AmendsLedger();
            int told = kind;
            for (int i = 0; i < 6; i++) {
                int cost = 10 + i;
                EDGES.allowed("the next", () -> x.offer(told, cost, 1, 9), i);
            }
            for (int i = 0; i < 6; i++) {
                EDGES.due("the cost of each", x.amends(kind, i, 0), 10 + i);
            }
        }
    }

    private static void promise2TheMenuHas6() {
        EDGES.promise(2, "if the menu has 6");
        AmendsLedger x = Ledgers.lived();
        EDGES.allowed("the sixth", () -> x.offer(0, 50, 1, 9), 5);
        EDGES.state("the seventh", Ledgers::livedFullMenu, y -> y.offer(0, 50, 1, 9));
        EDGES.state("the seventh, at no cost", Ledgers::livedFullMenu, y -> y.offer(0, 0, 1, 1));
        AmendsLedger full = Ledgers.livedFullMenu();
        EDGES.allowed("another menu has room", () -> full.offer(1, 50, 1, 9), 1);
        full.undo();
        full.undo();
        EDGES.allowed("room again by undo", () -> full.offer(0, 60, 1, 9), 5);
        EDGES.due("the new one", full.amends(0, 5, 0), 60);
    }

    private static void promise2FullWithThoseTakenOff() {
        EDGES.terms("2", "a menu of at most 6 amends .. until it is taken off (its number stays)");
        EDGES.state("all six taken off", EdgesOfMenusTest::allTakenOff,
                x -> x.offer(0, 50, 1, 9));
        AmendsLedger x = Ledgers.offering(1, 2, 3, 4, 5);
        x.takeOff(0, 4);
        EDGES.allowed("the number of the next", () -> x.offer(0, 6, 1, 9), 5);
        EDGES.due("the one taken off", x.amends(0, 4, 0), 5);
    }

    private static AmendsLedger allTakenOff() {
        AmendsLedger x = Ledgers.livedFullMenu();
        for (int i = 0; i < 6; i++) {
            x.takeOff(0, i);
        }
        return x;
    }

    private static void promise2FirstNamed() {
        EDGES.terms("2", "the one that is named first in the throws clause is thrown");
        EDGES.index("no kind, cost -1", Ledgers::lived, x -> x.offer(4, -1, 1, 9));
        EDGES.index("no kind, least 0", Ledgers::lived, x -> x.offer(-1, 5, 0, 9));
        EDGES.index("no kind, most 10", Ledgers::lived, x -> x.offer(4, 5, 1, 10));
        EDGES.argument("a full menu, cost 1000", Ledgers::livedFullMenu,
                x -> x.offer(0, 1000, 1, 9));
        EDGES.argument("a full menu, least 0", Ledgers::livedFullMenu, x -> x.offer(0, 5, 0, 9));
        EDGES.argument("a full menu, most 10", Ledgers::livedFullMenu, x -> x.offer(0, 5, 1, 10));
    }

    private static void promise2Undoable() {
        EDGES.promise(2, "Undoable.");
        EDGES.undoable("offer", Ledgers::lived, x -> x.offer(3, 5, 1, 9));
        EDGES.undoable("the sixth", Ledgers::lived, x -> x.offer(0, 0, 1, 1));
    }

    // ---- promise 3

    private static void promise3Kind() {
        EDGES.promise(3, "`kind`: 0 to 3");
        for (int kind = 0; kind <= 3; kind++) {
            AmendsLedger x = new AmendsLedger();
            int told = kind;
            for (int other = 0; other <= 3; other++) {
                x.offer(other, 5, 1, 9);
            }
            EDGES.allowed("kind " + kind, () -> x.takeOff(told, 0), 0);
            for (int other = 0; other <= 3; other++) {
                EDGES.due("offered by " + other, x.amends(other, 0, 3), other == kind ? 0 : 1);
            }
        }
        for (int kind : NO_KIND) {
            EDGES.index("kind " + kind, Ledgers::lived, x -> x.takeOff(kind, 0));
        }
    }

    private static void promise3ItsNumber() {
        EDGES.promise(3, "if there is no such kind or amends");
        AmendsLedger x = Ledgers.livedFullMenu();
        EDGES.allowed("the first", () -> x.takeOff(0, 0), 5);
        EDGES.allowed("the last", () -> x.takeOff(0, 5), 4);
        EDGES.index("before the first", Ledgers::livedFullMenu, y -> y.takeOff(0, -1));
        EDGES.index("behind the sixth", Ledgers::livedFullMenu, y -> y.takeOff(0, 6));
        EDGES.index("behind the fifth", Ledgers::lived, y -> y.takeOff(0, 5));
        EDGES.index("one that another kind has", Ledgers::lived, y -> y.takeOff(1, 1));
        EDGES.index("an empty menu", Ledgers::lived, y -> y.takeOff(3, 0));
        EDGES.index("far below", Ledgers::lived, y -> y.takeOff(0, Ledgers.FAR_BELOW));
        EDGES.index("far above", Ledgers::lived, y -> y.takeOff(0, Ledgers.FAR_ABOVE));
    }

    private static void promise3HowManyAreOfferedThen() {
        EDGES.promise(3, "Returns how many of this menu are offered then.");
        AmendsLedger x = Ledgers.livedFullMenu();
        int[] order = {3, 0, 5, 1, 4, 2};
        for (int i = 0; i < 6; i++) {
            int told = order[i];
            EDGES.allowed("takeOff " + told, () -> x.takeOff(0, told), 5 - i);
        }
        EDGES.due("the menu has them all", x.kind(0, 4), 6);
    }

    private static void promise3NotOffered() {
        EDGES.promise(3, "if it is not offered");
        AmendsLedger x = Ledgers.lived();
        EDGES.state("taken off before", Ledgers::lived, y -> y.takeOff(2, 0));
        EDGES.allowed("still offered", () -> x.takeOff(1, 0), 0);
        x.undo();
        EDGES.allowed("offered again by undo", () -> x.takeOff(1, 0), 0);
        EDGES.state("the last of six", EdgesOfMenusTest::allTakenOff, y -> y.takeOff(0, 5));
    }

    private static void promise3FirstNamed() {
        EDGES.terms("3", "the one that is named first in the throws clause is thrown");
        EDGES.index("no amends, where none is offered", Ledgers::lived, x -> x.takeOff(2, 1));
        EDGES.index("no amends, where six are taken off", EdgesOfMenusTest::allTakenOff,
                x -> x.takeOff(0, 6));
        EDGES.index("no kind, where six are taken off", EdgesOfMenusTest::allTakenOff,
                x -> x.takeOff(4, 5));
    }

    private static void promise3Undoable() {
        EDGES.promise(3, "Undoable.");
        EDGES.undoable("takeOff", Ledgers::lived, x -> x.takeOff(0, 0));
        EDGES.undoable("the last one offered", Ledgers::lived, x -> x.takeOff(1, 0));
    }

    // ---- promise 4

    private static void promise4Kind() {
        EDGES.promise(4, "`kind`: 0 to 3");
        for (int kind = 0; kind <= 3; kind++) {
            AmendsLedger x = new AmendsLedger();
            int told = kind;
            EDGES.allowed("kind " + kind, () -> x.base(told, 7), 500);
            for (int other = 0; other <= 3; other++) {
                EDGES.due("the base of " + other, x.kind(other, 0), other == kind ? 7 : 500);
            }
        }
        for (int kind : NO_KIND) {
            EDGES.index("kind " + kind, Ledgers::lived, x -> x.base(kind, 7));
        }
    }

    private static void promise4Base() {
        EDGES.promise(4, "`base`: 0 to 9999");
        for (int base : new int[] {0, 1, 9998, 9999}) {
            AmendsLedger x = new AmendsLedger();
            EDGES.allowed("base " + base, () -> x.base(3, base), 500);
            EDGES.due("its base", x.kind(3, 0), base);
            x.set(2, 0);
            x.closeMonth();
            EDGES.due("its next budget", x.kind(3, 1), base);
        }
        for (int base : new int[] {Ledgers.FAR_BELOW, -1, 10000, Ledgers.FAR_ABOVE}) {
            EDGES.argument("base " + base, Ledgers::lived, x -> x.base(0, base));
        }
    }

    private static void promise4BudgetStays() {
        EDGES.promise(4, "(the budget of this month stays)");
        AmendsLedger x = new AmendsLedger();
        x.base(0, 0);
        EDGES.due("a base of 0", x.kind(0, 1), 500);
        x.base(0, 9999);
        EDGES.due("a base of 9999", x.kind(0, 1), 500);
        EDGES.due("what is left", x.kind(0, 3), 500);
    }

    private static void promise4PreviousBase() {
        EDGES.promise(4, "Returns the previous base.");
        AmendsLedger x = new AmendsLedger();
        EDGES.allowed("at first 500", () -> x.base(1, 0), 500);
        EDGES.allowed("then 0", () -> x.base(1, 9999), 0);
        EDGES.allowed("then 9999", () -> x.base(1, 9999), 9999);
        EDGES.allowed("another kind's", () -> x.base(2, 9999), 500);
    }

    private static void promise4FirstNamed() {
        EDGES.terms("4", "the one that is named first in the throws clause is thrown");
        EDGES.index("no kind, base -1", Ledgers::lived, x -> x.base(4, -1));
        EDGES.index("no kind, base 10000", Ledgers::lived, x -> x.base(-1, 10000));
    }

    private static void promise4Undoable() {
        EDGES.promise(4, "Undoable.");
        EDGES.undoable("base", Ledgers::lived, x -> x.base(3, 9999));
        EDGES.undoable("the base that it has", Ledgers::lived, x -> x.base(0, 25));
    }

    // ---- promise 5

    private static void promise5Setting() {
        EDGES.promise(5, "`setting`: 0 to 2");
        int[] first = {2, 1, 50};
        for (int setting = 0; setting <= 2; setting++) {
            AmendsLedger x = new AmendsLedger();
            int told = setting;
            EDGES.allowed("setting " + setting, () -> x.set(told, 3), first[setting]);
            for (int other = 0; other <= 2; other++) {
                EDGES.due("setting", x.setting(other), other == setting ? 3 : first[other]);
            }
        }
        for (int setting : new int[] {Ledgers.FAR_BELOW, -1, 3, Ledgers.FAR_ABOVE}) {
            EDGES.index("setting " + setting, Ledgers::lived, x -> x.set(setting, 1));
        }
    }

    private static void promise5Value() {
        EDGES.terms("5", "0: months for which a precedent binds, 1 to 6, at first 2");
        valuesOf(0, 1, 6, 2);
        EDGES.terms("5", "1: months for an appeal, 0 to 3, at first 1");
        valuesOf(1, 0, 3, 1);
        EDGES.terms("5", "2: what is carried over, in percent, 0 to 100, at first 50");
        valuesOf(2, 0, 100, 50);
    }

    private static void valuesOf(int setting, int least, int greatest, int first) {
        EDGES.due("at first", new AmendsLedger().setting(setting), first);
        for (int value : new int[] {least, least + 1, greatest - 1, greatest}) {
            AmendsLedger x = new AmendsLedger();
            EDGES.allowed("value " + value, () -> x.set(setting, value), first);
            EDGES.due("its value", x.setting(setting), value);
        }
        int[] outside = {Ledgers.FAR_BELOW, least - 1, greatest + 1, Ledgers.FAR_ABOVE};
        for (int value : outside) {
            EDGES.argument("value " + value, Ledgers::lived, x -> x.set(setting, value));
        }
    }

    private static void promise5PreviousValue() {
        EDGES.promise(5, "Returns the previous value.");
        AmendsLedger x = new AmendsLedger();
        EDGES.allowed("at first 50", () -> x.set(2, 0), 50);
        EDGES.allowed("then 0", () -> x.set(2, 100), 0);
        EDGES.allowed("then 100", () -> x.set(2, 100), 100);
        EDGES.allowed("setting 0", () -> x.set(0, 6), 2);
        EDGES.allowed("then 6", () -> x.set(0, 1), 6);
        EDGES.allowed("setting 1", () -> x.set(1, 0), 1);
        EDGES.allowed("then 0", () -> x.set(1, 3), 0);
    }

    private static void promise5FirstNamed() {
        EDGES.terms("5", "the one that is named first in the throws clause is thrown");
        EDGES.index("no setting, value -1", Ledgers::lived, x -> x.set(3, -1));
        EDGES.index("no setting, value 101", Ledgers::lived, x -> x.set(-1, 101));
    }

    private static void promise5Undoable() {
        EDGES.promise(5, "Undoable.");
        for (int setting = 0; setting <= 2; setting++) {
            int told = setting;
            EDGES.undoable("set", Ledgers::lived, x -> x.set(told, 3));
            EDGES.undoable("the value that it has", Ledgers::lived,
                    x -> x.set(told, x.setting(told)));
        }
    }
}
