/** Boundary cases of the promises 11 to 15: the buffer, complaints as a text, and undo. */
public final class EdgesOfTextsTest {
    private static final String EIGHT =
            "k0s1c0;k1s2c1;k2s3c2;k3s4c3;k0s5c4;k1s6c5;k2s7c6;k3s8c7";

    private static final Edges EDGES = new Edges("EdgesOfTextsTest");

    public static void main(String[] args) {
        promise11Code();
        promise11NewLength();
        promise11SixtyCharacters();
        promise11FirstNamed();
        promise11NotUndoable();
        promise12LengthThatItHad();
        promise12Cleared();
        promise12NotUndoable();
        promise13NoneIsTheLength();
        promise13EveryPlace();
        promise13FirstOfSeveral();
        promise13FullBuffer();
        promise13OfAnyLength();
        promise13NothingIsChanged();
        promise14OneOrMore();
        promise14NotComplete();
        promise14Numbers();
        promise14HowManyThen();
        promise14MoreThan24();
        promise14AllOrNone();
        promise14ClearsTheBuffer();
        promise14FirstNamed();
        promise14UndoableAsOneCall();
        promise15None();
        promise15HowManyAreLeft();
        promise15AtMostSix();
        promise15OldestDroppedFirst();
        promise15RoundAndRound();
        promise15IfItChangesNothing();
        promise15RefusedCallsAreNotSaved();
        promise15AllButTheBuffer();
        EDGES.end();
    }

    private static AmendsLedger telling(String text) {
        AmendsLedger x = new AmendsLedger();
        Ledgers.append(x, text);
        return x;
    }

    // ---- promise 11

    private static void promise11Code() {
        EDGES.promise(11, "`code`: the character code, 33 to 126");
        for (int code = 33; code <= 126; code++) {
            AmendsLedger x = new AmendsLedger();
            AmendsLedger digested = new AmendsLedger();
            int told = code;
            EDGES.allowed("code " + code, () -> x.append(told), 1);
            EDGES.due("its code", x.digest(), 31 * (digested.digest() + 1) + code);
        }
        int[] outside = {Ledgers.FAR_BELOW, -1, 0, 31, 32, 127, 128, 33 + 256, 107 + 65536,
            Ledgers.FAR_ABOVE};
        for (int code : outside) {
            EDGES.argument("code " + code, Ledgers::lived, x -> x.append(code));
        }
    }

    private static void promise11NewLength() {
        EDGES.promise(11, "Returns the new length of the buffer.");
        AmendsLedger x = new AmendsLedger();
        for (int i = 1; i <= 60; i++) {
            EDGES.allowed("append", () -> x.append('k'), i);
        }
    }

    private static void promise11SixtyCharacters() {
        EDGES.promise(11, "if the buffer has 60 characters");
        AmendsLedger x = Ledgers.livedFullBuffer();
        EDGES.due("full", x.clearBuffer(), 60);
        EDGES.allowed("room again", () -> x.append('k'), 1);
        EDGES.state("the 61st", Ledgers::livedFullBuffer, y -> y.append('k'));
        EDGES.state("the 61st, 33", Ledgers::livedFullBuffer, y -> y.append(33));
        EDGES.state("the 61st, 126", Ledgers::livedFullBuffer, y -> y.append(126));
    }

    private static void promise11FirstNamed() {
        EDGES.terms("11", "the one that is named first in the throws clause is thrown");
        EDGES.argument("a full buffer, 32", Ledgers::livedFullBuffer, x -> x.append(32));
        EDGES.argument("a full buffer, 127", Ledgers::livedFullBuffer, x -> x.append(127));
    }

    private static void promise11NotUndoable() {
        EDGES.terms("11", "Each method that is marked \"undoable\" .. saves the state");
        AmendsLedger x = new AmendsLedger();
        x.append('k');
        EDGES.due("nothing is saved", x.count(11), 0);
        AmendsLedger y = Ledgers.lived();
        y.append('k');
        y.clearBuffer();
        Ledgers.append(y, "k1s2c3;k");
        EDGES.alike("nothing is dropped", y, Ledgers.lived());
    }

    // ---- promise 12

    private static void promise12LengthThatItHad() {
        EDGES.promise(12, "Returns the length that it had.");
        AmendsLedger x = new AmendsLedger();
        for (int length = 0; length <= 60; length++) {
            if (length == 0 || length == 1 || length == 59 || length == 60) {
                for (int i = 0; i < length; i++) {
                    x.append('s');
                }
                EDGES.allowed("length " + length, x::clearBuffer, length);
                EDGES.allowed("length 0 then", x::clearBuffer, 0);
            }
        }
    }

    private static void promise12Cleared() {
        EDGES.promise(12, "Clears the buffer.");
        AmendsLedger x = Ledgers.livedFullBuffer();
        x.clearBuffer();
        EDGES.due("firstError", x.firstError(), 0);
        EDGES.due("append", x.append('k'), 1);
        EDGES.due("firstError", x.firstError(), 1);
    }

    private static void promise12NotUndoable() {
        EDGES.terms("12", "Each method that is marked \"undoable\" .. saves the state");
        AmendsLedger x = new AmendsLedger();
        x.clearBuffer();
        EDGES.due("nothing is saved", x.count(11), 0);
        AmendsLedger y = Ledgers.lived();
        y.clearBuffer();
        y.undo();
        EDGES.due("undo does not bring it back", y.clearBuffer(), 0);
    }

    // ---- promise 13

    private static void promise13NoneIsTheLength() {
        EDGES.promise(13, "the length of the buffer if there is none");
        String text = EIGHT + ";k0s9";
        for (int length = 0; length <= 60; length++) {
            AmendsLedger x = telling(text.substring(0, length));
            EDGES.allowed("without an error", x::firstError, length);
        }
    }

    private static void promise13EveryPlace() {
        EDGES.terms("13", "each \"k\", a kind, 0 to 3, \"s\", a severity, 1 to 9, \"c\", and a"
                + " customer, 0 to 9");
        String[] fitting = {"k", "0123", "s", "123456789", "c", "0123456789", ";"};
        String[] wrong = {"jlK;0", "/4:k", "rtS0", "0/:s", "bdC9", "/:c;", ":<k,0"};
        String text = EIGHT + ";k0s9";
        for (int place = 0; place < 60; place++) {
            for (char sign : fitting[place % 7].toCharArray()) {
                AmendsLedger x = telling(text.substring(0, place) + sign);
                EDGES.allowed(sign + " at " + place, x::firstError, place + 1);
            }
            for (char sign : wrong[place % 7].toCharArray()) {
                AmendsLedger x = telling(text.substring(0, place) + sign);
                EDGES.allowed(sign + " at " + place, x::firstError, place);
            }
        }
    }

    private static void promise13FirstOfSeveral() {
        EDGES.promise(13, "Returns the index of the first character that is a syntax error");
        due("!", 0);
        due("!k0s1c0", 0);
        due("k0s1c0!;", 6);
        due("k4s0c!", 1);
        due("k0s0k0s0", 3);
        due("kk0s1c0", 1);
        due("k0s1c0k0s1c0", 6);
        due("k0s1c0;;", 7);
        due(";k0s1c0", 0);
        due("k00s1c0", 2);
        due("k0s10c0", 4);
        due("k0s1c00", 6);
    }

    private static void due(String text, int want) {
        EDGES.allowed(text, telling(text)::firstError, want);
    }

    private static void promise13FullBuffer() {
        EDGES.promise(13, "the length of the buffer if there is none");
        String full = EIGHT + ";k0s9";
        due(full, 60);
        due(full.substring(0, 59) + "0", 59);
        due("K" + full.substring(1), 0);
        due(full.substring(0, 55) + "," + full.substring(56), 55);
    }

    private static void promise13OfAnyLength() {
        EDGES.terms("13", "no complaints as a text, of any length, begin with the characters before"
                + " it and this character");
        AmendsLedger x = Ledgers.lived24();
        x.clearBuffer();
        Ledgers.append(x, EIGHT + ";k0s9");
        EDGES.allowed("more than there can be", x::firstError, 60);
    }

    private static void promise13NothingIsChanged() {
        EDGES.promise(13, "Finds the first syntax error of the buffer.");
        AmendsLedger x = Ledgers.livedTelling("k0s1c0;!");
        x.firstError();
        EDGES.alike("nothing is changed", x, Ledgers.livedTelling("k0s1c0;!"));
    }

    // ---- promise 14

    private static void promise14OneOrMore() {
        EDGES.terms("14", "Complaints as a text are one or more complaints with \";\" between");
        EDGES.argument("none", () -> Ledgers.livedTelling(""), AmendsLedger::complainAll);
        EDGES.argument("\";\" alone", () -> Ledgers.livedTelling(";"), AmendsLedger::complainAll);
        for (int i = 1; i <= 8; i++) {
            int count = i;
            AmendsLedger x = telling(EIGHT.substring(0, 7 * count - 1));
            EDGES.allowed(count + " complaints", x::complainAll, count);
            EDGES.argument(count + " and \";\"",
                    () -> Ledgers.livedTelling(EIGHT.substring(0, 7 * count - 1) + ";"),
                    AmendsLedger::complainAll);
        }
    }

    private static void promise14NotComplete() {
        EDGES.promise(14, "if the buffer is not complete complaints as a text");
        String text = EIGHT + ";k0s9";
        for (int i = 0; i <= 60; i++) {
            int length = i;
            if (length % 7 != 6) {
                EDGES.argument("the first " + length + " of them",
                        () -> Ledgers.livedTelling(text.substring(0, length)),
                        AmendsLedger::complainAll);
            }
        }
        String[] wrong = {"k4s1c0", "k/s1c0", "k0s0c0", "k0s:c0", "k0s1c:", "k0s1c/", "K0s1c0",
            "k0s1c0,k0s1c0", "k0s1c0;k0s1c!", "!0s1c0;k0s1c0", "k0s1c0;;k0s1c", "k0s1c!;k0s1c0"};
        for (String each : wrong) {
            EDGES.argument(each, () -> Ledgers.livedTelling(each), AmendsLedger::complainAll);
        }
    }

    private static void promise14Numbers() {
        EDGES.promise(14, "Takes the complaints in the buffer");
        String[] texts = {"k0s1c0;k3s9c9;k0s9c9;k3s1c0", EIGHT};
        for (String text : texts) {
            AmendsLedger x = telling(text);
            x.complainAll();
            String[] parts = text.split(";");
            EDGES.due("complaints", x.count(0), parts.length);
            for (int i = 0; i < parts.length; i++) {
                EDGES.due("kind of " + parts[i], x.complaint(i, 0), parts[i].charAt(1) - '0');
                EDGES.due("severity of " + parts[i], x.complaint(i, 1), parts[i].charAt(3) - '0');
                EDGES.due("customer of " + parts[i], x.complaint(i, 2), parts[i].charAt(5) - '0');
                EDGES.due("open", x.complaint(i, 4), 0);
            }
        }
    }

    private static void promise14HowManyThen() {
        EDGES.promise(14, "Returns how many complaints there are then.");
        AmendsLedger x = new AmendsLedger();
        for (int i = 1; i <= 3; i++) {
            Ledgers.append(x, EIGHT);
            EDGES.allowed("eight more", x::complainAll, 8 * i);
        }
        EDGES.due("the 24th", x.complaint(23, 2), 7);
    }

    private static void promise14MoreThan24() {
        EDGES.promise(14, "if there would be more than 24");
        for (int i = 1; i <= 8; i++) {
            int count = i;
            AmendsLedger x = having(24 - count, count);
            EDGES.allowed("24 with " + count, x::complainAll, 24);
            EDGES.state("25 with " + count, () -> having(25 - count, count),
                    AmendsLedger::complainAll);
        }
        EDGES.state("24 and eight", () -> having(24, 8), AmendsLedger::complainAll);
        AmendsLedger x = having(24, 1);
        x.undo();
        EDGES.allowed("room again by undo", x::complainAll, 24);
    }

    /** So many complaints, and more of them in the buffer. */
    private static AmendsLedger having(int complaints, int told) {
        AmendsLedger x = new AmendsLedger();
        Ledgers.complain(x, complaints, 5);
        Ledgers.append(x, EIGHT.substring(0, 7 * told - 1));
        return x;
    }

    private static void promise14AllOrNone() {
        EDGES.promise(14, "all or none");
        AmendsLedger x = having(17, 8);
        EDGES.state("25 with 8", x::complainAll);
        EDGES.due("none", x.count(0), 17);
        AmendsLedger y = telling("k0s1c0;k0s1c0;k0s1c");
        EDGES.argument("two and a half", () -> telling("k0s1c0;k0s1c0;k0s1c"),
                AmendsLedger::complainAll);
        EDGES.due("none", y.count(0), 0);
    }

    private static void promise14ClearsTheBuffer() {
        EDGES.promise(14, "and clears the buffer");
        AmendsLedger x = telling(EIGHT);
        x.complainAll();
        EDGES.due("firstError", x.firstError(), 0);
        EDGES.due("clearBuffer", x.clearBuffer(), 0);
        AmendsLedger y = having(24, 8);
        EDGES.state("refused", y::complainAll);
        EDGES.due("it stays if refused", y.clearBuffer(), 55);
    }

    private static void promise14FirstNamed() {
        EDGES.terms("14", "the one that is named first in the throws clause is thrown");
        EDGES.argument("24, half told", Ledgers::lived24, AmendsLedger::complainAll);
        EDGES.argument("24, an empty buffer", () -> empty24(""), AmendsLedger::complainAll);
        EDGES.argument("24, not complete", () -> empty24("k0s1c"), AmendsLedger::complainAll);
        EDGES.argument("24, a wrong sign", () -> empty24("k0s1c!"), AmendsLedger::complainAll);
        EDGES.state("24, complete", () -> empty24("k0s1c0"), AmendsLedger::complainAll);
    }

    private static AmendsLedger empty24(String text) {
        AmendsLedger x = Ledgers.lived24();
        x.clearBuffer();
        Ledgers.append(x, text);
        return x;
    }

    private static void promise14UndoableAsOneCall() {
        EDGES.promise(14, "Undoable, as one call.");
        AmendsLedger x = telling(EIGHT);
        x.complainAll();
        EDGES.due("one state is saved", x.count(11), 1);
        x.append('k');
        EDGES.allowed("undo", x::undo, 0);
        EDGES.due("all eight are gone", x.count(0), 0);
        EDGES.due("the buffer is as it was", x.clearBuffer(), 1);
        AmendsLedger y = Ledgers.livedTelling("k1s1c1;k2s2c2");
        y.complainAll();
        EDGES.due("six states are saved", y.count(11), 6);
        EDGES.allowed("undo", y::undo, 5);
        EDGES.due("both are gone", y.count(0), 6);
        EDGES.due("the buffer does not come back", y.clearBuffer(), 0);
        EDGES.undoable("complainAll", () -> Ledgers.livedTelling(EIGHT), z -> {
            z.complainAll();
            Ledgers.append(z, EIGHT);
        });
    }

    // ---- promise 15

    private static void promise15None() {
        EDGES.promise(15, "if there is none");
        EDGES.state("of a new one", AmendsLedger::new, AmendsLedger::undo);
        EDGES.state("with a text", () -> telling("k0s1c0"), AmendsLedger::undo);
        EDGES.state("all undone", EdgesOfTextsTest::allUndone, AmendsLedger::undo);
        AmendsLedger x = new AmendsLedger();
        x.set(0, 6);
        EDGES.allowed("of one", x::undo, 0);
        EDGES.state("of none", x::undo);
    }

    private static AmendsLedger allUndone() {
        AmendsLedger x = Ledgers.lived();
        for (int i = 0; i < 6; i++) {
            x.undo();
        }
        return x;
    }

    private static void promise15HowManyAreLeft() {
        EDGES.promise(15, "Returns how many saved states are left.");
        for (int calls = 1; calls <= 9; calls++) {
            AmendsLedger x = new AmendsLedger();
            for (int i = 0; i < calls; i++) {
                x.base(0, i);
            }
            for (int left = Math.min(calls, 6) - 1; left >= 0; left--) {
                EDGES.allowed("undo after " + calls, x::undo, left);
                EDGES.due("saved states", x.count(11), left);
            }
            EDGES.state("no more after " + calls, x::undo);
        }
    }

    private static void promise15AtMostSix() {
        EDGES.terms("15", "At most 6 states are saved");
        AmendsLedger x = new AmendsLedger();
        for (int i = 1; i <= 20; i++) {
            x.base(0, i);
            EDGES.due("saved after " + i, x.count(11), Math.min(i, 6));
        }
    }

    private static void promise15OldestDroppedFirst() {
        EDGES.terms("15", "the oldest one is dropped first");
        AmendsLedger six = new AmendsLedger();
        for (int i = 1; i <= 6; i++) {
            six.base(0, i);
        }
        for (int i = 5; i >= 1; i--) {
            six.undo();
            EDGES.due("six calls, the base before " + (i + 1), six.kind(0, 0), i);
        }
        six.undo();
        EDGES.due("six calls, the first state", six.kind(0, 0), 500);
        AmendsLedger seven = new AmendsLedger();
        for (int i = 1; i <= 7; i++) {
            seven.base(0, i);
        }
        for (int i = 6; i >= 1; i--) {
            seven.undo();
            EDGES.due("seven calls, the base before " + (i + 1), seven.kind(0, 0), i);
        }
        EDGES.state("the first state is dropped", seven::undo);
        EDGES.due("the base", seven.kind(0, 0), 1);
    }

    /** Calls and undone ones in turns, so that each place for a state is used again and again. */
    private static void promise15RoundAndRound() {
        EDGES.promise(15, "Restores the latest saved state, and drops it.");
        for (int back = 1; back <= 6; back++) {
            AmendsLedger x = new AmendsLedger();
            int[] bases = new int[100];
            bases[0] = 500;
            int top = 0;
            int saved = 0;
            for (int round = 0; round < 8; round++) {
                for (int i = 0; i < 7; i++) {
                    top++;
                    bases[top] = 100 * round + 10 * i + back;
                    x.base(0, bases[top]);
                    saved = Math.min(6, saved + 1);
                }
                for (int i = 0; i < back; i++) {
                    top--;
                    saved--;
                    EDGES.allowed("undo", x::undo, saved);
                    EDGES.due("the base of then", x.kind(0, 0), bases[top]);
                }
            }
        }
    }

    private static void promise15IfItChangesNothing() {
        EDGES.terms("15", "saves the state from before it (also if it changes nothing)");
        AmendsLedger x = new AmendsLedger();
        x.base(0, 500);
        EDGES.due("the same base", x.count(11), 1);
        x.set(0, 2);
        EDGES.due("the same value", x.count(11), 2);
        x.set(1, 1);
        x.set(2, 50);
        EDGES.due("the same values", x.count(11), 4);
        EDGES.allowed("undo", x::undo, 3);
        EDGES.due("nothing else is changed", x.setting(2), 50);
    }

    private static void promise15RefusedCallsAreNotSaved() {
        EDGES.terms("15", "and does not throw an exception");
        EDGES.index("no kind", EdgesOfTextsTest::withRoom, y -> y.offer(4, 0, 1, 1));
        EDGES.index("no amends", EdgesOfTextsTest::withRoom, y -> y.takeOff(0, 6));
        EDGES.argument("no base", EdgesOfTextsTest::withRoom, y -> y.base(0, -1));
        EDGES.argument("no value", EdgesOfTextsTest::withRoom, y -> y.set(0, 0));
        EDGES.argument("no severity", EdgesOfTextsTest::withRoom, y -> y.complain(0, 0, 0));
        EDGES.state("no decision", EdgesOfTextsTest::withRoom, y -> y.decide(1, 1, 0));
        EDGES.state("no appeal", EdgesOfTextsTest::withRoom, y -> y.appeal(0));
        EDGES.state("no judgement", EdgesOfTextsTest::withRoom, y -> y.judge(0, 3));
        EDGES.argument("no text", EdgesOfTextsTest::withRoom, AmendsLedger::complainAll);
    }

    /** Five states are saved, so that one more would be counted. */
    private static AmendsLedger withRoom() {
        AmendsLedger x = Ledgers.toJudge();
        x.base(0, 500);
        x.undo();
        return x;
    }

    private static void promise15AllButTheBuffer() {
        EDGES.terms("15", "all but the buffer and the saved states");
        AmendsLedger x = Ledgers.lived();
        x.clearBuffer();
        Ledgers.append(x, "k3s");
        for (int left = 5; left >= 0; left--) {
            EDGES.allowed("undo", x::undo, left);
            EDGES.due("the buffer is as it was", x.firstError(), 3);
        }
        EDGES.due("its length", x.clearBuffer(), 3);
    }
}
