/** Promises 11 to 15: the buffer, complaints as a text, and undo. */
public final class TextsTest {
    private static final Class<IllegalArgumentException> ARGUMENT = IllegalArgumentException.class;
    private static final Class<IllegalStateException> STATE = IllegalStateException.class;

    private static final Checks CHECKS = new Checks("TextsTest");

    public static void main(String[] args) {
        promise11Append();
        promise12ClearBuffer();
        promise13FirstError();
        promise13EverySign();
        promise14ComplainAll();
        promise14Refused();
        promise15Undo();
        promise15EveryUndoable();
        promise15EarlierPrecedent();
        promise15LooksAndTextsAreNotSaved();
        CHECKS.end();
    }

    private static void append(AmendsLedger x, String text) {
        for (int i = 0; i < text.length(); i++) {
            x.append(text.charAt(i));
        }
    }

    private static void promise11Append() {
        AmendsLedger x = new AmendsLedger();
        CHECKS.due("append", x.append(33), 1);
        CHECKS.due("append", x.append(126), 2);
        CHECKS.refused("append(32)", ARGUMENT, () -> x.append(32));
        CHECKS.refused("append(127)", ARGUMENT, () -> x.append(127));
        CHECKS.refused("append(-1)", ARGUMENT, () -> x.append(-1));
        for (int i = 3; i <= 60; i++) {
            CHECKS.due("append", x.append('k'), i);
        }
        CHECKS.refused("the 61st", STATE, () -> x.append('k'));
        CHECKS.refused("the code before the state", ARGUMENT, () -> x.append(127));
        CHECKS.due("not undoable", x.count(11), 0);
        CHECKS.due("length", x.clearBuffer(), 60);
    }

    private static void promise12ClearBuffer() {
        AmendsLedger x = new AmendsLedger();
        CHECKS.due("clearBuffer", x.clearBuffer(), 0);
        append(x, "k0s1");
        CHECKS.due("clearBuffer", x.clearBuffer(), 4);
        CHECKS.due("clearBuffer", x.clearBuffer(), 0);
        CHECKS.due("append", x.append('k'), 1);
        CHECKS.due("the old signs are gone", x.firstError(), 1);
        CHECKS.due("not undoable", x.count(11), 0);
    }

    private static void promise13FirstError() {
        String[] right = {"", "k", "k3", "k0s", "k0s9", "k0s1c", "k0s1c0", "k0s1c9;",
            "k0s1c9;k1s2c3", "k0s1c0;k0s1c0;k0s1c0;k0s1c0;k0s1c0;k0s1c0;k0s1c0;k0s1c0;k0s1"};
        for (String text : right) {
            due(text, text.length());
        }
        due("s", 0);
        due("k4", 1);
        due("k0k", 2);
        due("k0s0", 3);
        due("k0s11", 4);
        due("k0s1ca", 5);
        due("k0s1c0k", 6);
        due("k0s1c0;;", 7);
        due("k0s1c0;k0s0!", 10);
        due("K0", 0);
    }

    private static void due(String text, int want) {
        AmendsLedger x = new AmendsLedger();
        append(x, text);
        CHECKS.due("firstError of " + text, x.firstError(), want);
        CHECKS.due("the buffer stays", x.clearBuffer(), text.length());
    }

    /** At each place of a second complaint, every sign that the buffer takes. */
    private static void promise13EverySign() {
        String[] fitting = {"k", "0123", "s", "123456789", "c", "0123456789", ";"};
        String text = "k2s5c8;k2s5c8;";
        for (int place = 0; place < 7; place++) {
            for (int code = 33; code <= 126; code++) {
                AmendsLedger x = new AmendsLedger();
                append(x, text.substring(0, 7 + place));
                x.append(code);
                boolean fits = fitting[place].indexOf(code) >= 0;
                CHECKS.due("place " + place + ", code " + code, x.firstError(),
                        7 + place + (fits ? 1 : 0));
            }
        }
    }

    private static void promise14ComplainAll() {
        AmendsLedger x = new AmendsLedger();
        append(x, "k0s1c2");
        CHECKS.due("complainAll", x.complainAll(), 1);
        append(x, "k3s9c0;k1s4c9");
        CHECKS.due("complainAll", x.complainAll(), 3);
        CHECKS.due("the buffer is cleared", x.clearBuffer(), 0);
        int[][] wanted = {{0, 1, 2, 0}, {3, 9, 0, 2}, {1, 4, 9, 1}};
        for (int i = 0; i < 3; i++) {
            for (int what = 0; what < 4; what++) {
                CHECKS.due("complaint", x.complaint(i, what), wanted[i][what]);
            }
        }
        CHECKS.due("saved as one call", x.count(11), 2);
        append(x, "k0");
        CHECKS.due("undo", x.undo(), 1);
        CHECKS.due("both are gone", x.count(0), 1);
        CHECKS.due("undo leaves the buffer", x.clearBuffer(), 2);
    }

    private static void promise14Refused() {
        AmendsLedger x = new AmendsLedger();
        String[] wrong = {"", "k", "k0s1c", "k0s1c0;", "k0s1c0;k0s1c", "k4s1c0", "k0s0c0", "x"};
        for (String text : wrong) {
            append(x, text);
            CHECKS.refused("complainAll of " + text, ARGUMENT, x::complainAll);
            CHECKS.due("the buffer stays", x.clearBuffer(), text.length());
        }
        CHECKS.due("none was taken", x.count(0), 0);
        CHECKS.due("nothing was saved", x.count(11), 0);
        String eight = "k0s1c0;k0s1c0;k0s1c0;k0s1c0;k0s1c0;k0s1c0;k0s1c0;k0s1c0";
        append(x, eight);
        CHECKS.due("complainAll", x.complainAll(), 8);
        append(x, eight);
        CHECKS.due("complainAll", x.complainAll(), 16);
        x.complain(0, 1, 0);
        append(x, eight);
        CHECKS.refused("there would be 25", STATE, x::complainAll);
        CHECKS.due("all or none", x.count(0), 17);
        x.append(';');
        CHECKS.refused("the text before the state", ARGUMENT, x::complainAll);
        CHECKS.due("clearBuffer", x.clearBuffer(), 56);
        append(x, eight.substring(7));
        CHECKS.due("24 are not too many", x.complainAll(), 24);
        append(x, "k0s1c0");
        CHECKS.refused("there are 24", STATE, x::complainAll);
    }

    private static void promise15Undo() {
        AmendsLedger x = new AmendsLedger();
        for (int i = 0; i < 8; i++) {
            x.base(0, i);
            CHECKS.due("saved states", x.count(11), Math.min(6, i + 1));
        }
        for (int i = 5; i >= 0; i--) {
            CHECKS.due("undo", x.undo(), i);
            CHECKS.due("the state from before", x.kind(0, 0), i + 1);
        }
        CHECKS.refused("the oldest were dropped", STATE, x::undo);
        CHECKS.due("the state stays", x.kind(0, 0), 1);
        x.base(0, 70);
        x.base(0, 80);
        CHECKS.due("undo", x.undo(), 1);
        x.base(0, 90);
        CHECKS.due("undo of the new call", x.undo(), 1);
        CHECKS.due("the state from before it", x.kind(0, 0), 70);
        CHECKS.due("undo", x.undo(), 0);
        CHECKS.due("the first one", x.kind(0, 0), 1);
    }

    /** Each undo brings the digest back, for it covers the whole state. */
    private static void promise15EveryUndoable() {
        AmendsLedger x = new AmendsLedger();
        x.offer(0, 10, 1, 9);
        x.offer(0, 20, 1, 9);
        x.complain(0, 1, 0);
        x.complain(0, 1, 1);
        x.decide(0, 0, 0);
        x.appeal(0);
        undone(x, "offer", () -> x.offer(0, 1, 1, 1));
        undone(x, "takeOff", () -> x.takeOff(0, 0));
        undone(x, "base", () -> x.base(1, 7));
        undone(x, "set", () -> x.set(0, 5));
        undone(x, "complain", () -> x.complain(1, 1, 1));
        undone(x, "decide", () -> x.decide(1, 0, 0));
        undone(x, "decide with a reason", () -> x.decide(1, 1, 3));
        undone(x, "judge", () -> x.judge(0, 1));
        undone(x, "closeMonth", x::closeMonth);
        x.decide(1, 0, 0);
        undone(x, "appeal", () -> x.appeal(1));
        undone(x, "judge with a top-up", () -> x.judge(0, 1));
    }

    /** Five states are saved before each call, so that it drops none of them. */
    private static void undone(AmendsLedger x, String call, Runnable action) {
        x.set(2, x.setting(2));
        x.undo();
        CHECKS.due("saved states before " + call, x.count(11), 5);
        long before = x.digest();
        action.run();
        CHECKS.due("saved states after " + call, x.count(11), 6);
        CHECKS.due("changed by " + call, x.digest() == before ? 1 : 0, 0);
        CHECKS.due("undo of " + call, x.undo(), 5);
        CHECKS.due("digest after undo of " + call, x.digest(), before);
    }

    private static void promise15EarlierPrecedent() {
        AmendsLedger x = new AmendsLedger();
        x.offer(0, 10, 1, 9);
        x.offer(0, 20, 1, 9);
        x.complain(0, 1, 0);
        x.complain(0, 1, 1);
        x.decide(0, 0, 0);
        x.set(0, 1);
        x.closeMonth();
        CHECKS.due("another precedent", x.decide(1, 1, 0), 1);
        CHECKS.due("the latest", x.precedent(0, 0, 2), 1);
        x.undo();
        CHECKS.due("the earlier one again", x.precedent(0, 0, 2), 0);
        CHECKS.due("its month", x.precedent(0, 0, 1), 0);
        x.undo();
        CHECKS.due("binds again", x.precedent(0, 0, 3), 1);
    }

    private static void promise15LooksAndTextsAreNotSaved() {
        AmendsLedger x = new AmendsLedger();
        x.offer(0, 10, 1, 9);
        x.offer(0, 20, 1, 9);
        x.complain(0, 1, 0);
        x.decide(0, 0, 0);
        x.appeal(0);
        x.append('k');
        long before = x.digest();
        x.firstError();
        x.complaint(0, 10);
        x.amends(0, 0, 4);
        x.precedent(0, 0, 4);
        x.kind(0, 7);
        x.count(10);
        x.setting(0);
        x.ofCustomer(0, 0);
        x.whyNot(0, 1, -1);
        x.fair(0);
        x.ifJudged(0, 1, 3);
        x.monthsToEqual();
        x.followShare();
        CHECKS.due("looks change nothing", x.digest(), before);
        CHECKS.due("saved states", x.count(11), 5);
    }
}
