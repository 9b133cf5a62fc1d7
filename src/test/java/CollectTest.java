/** Promises 2 and 12: collect, collected. */
public final class CollectTest {
    private static final int SIGNS = 0;
    private static final int BYTES = 1;
    private static final int ROWS = 2;
    private static final int TURNS = 3;
    private static final Check check = new Check();

    public static void main(String[] args) {
        edgesOfEachWhat();
        noSuchWhat();
        valuesStandInTheirOrder();
        refusedChangesNothing();
        hundredOfEach();
        turnsMakeNumbers();
        turnsBeyondFortyAreCollectedStill();
        secondDeskCollectsToo();
        noneSuchCollected();
        check.end();
    }

    private static void edgesOfEachWhat() {
        PortDesk desk = new PortDesk();
        dueRefused(desk, SIGNS, 31, 127, -1, 0, Long.MIN_VALUE, Long.MAX_VALUE, (1L << 32) + 40);
        dueTaken(desk, SIGNS, 32, 33, 125, 126);
        dueRefused(desk, BYTES, -1, 256, 257, Long.MIN_VALUE, Long.MAX_VALUE, 1L << 32, (1L << 32) + 7);
        dueTaken(desk, BYTES, 0, 1, 31, 127, 254, 255);
        dueTaken(desk, ROWS, 0, -1, 256, Long.MIN_VALUE, Long.MAX_VALUE);
        dueRefused(desk, TURNS, -1, 8, 9, Long.MIN_VALUE, Long.MAX_VALUE, 1L << 32, (1L << 32) + 3);
        dueTaken(desk, TURNS, 0, 1, 2, 3, 4, 5, 6, 7);
    }

    private static void dueTaken(PortDesk desk, int what, long... values) {
        for (int i = 0; i < values.length; i++) {
            check.due("collect(" + what + ", " + values[i] + ")", desk.collect(what, values[i]), i + 1);
        }
        for (int i = 0; i < values.length; i++) {
            check.due("collected(" + what + ", " + i + ")", desk.collected(what, i), values[i]);
        }
    }

    private static void dueRefused(PortDesk desk, int what, long... values) {
        for (long value : values) {
            check.due("collect(" + what + ", " + value + ")", desk.collect(what, value), PortDesk.NONE);
        }
    }

    private static void noSuchWhat() {
        PortDesk desk = new PortDesk();
        for (int what : Check.outside(4)) {
            dueRefused(desk, what, 0, 40);
        }
    }

    private static void valuesStandInTheirOrder() {
        PortDesk desk = new PortDesk();
        desk.collect(ROWS, 5);
        desk.collect(BYTES, 7);
        desk.collect(ROWS, 3);
        desk.collect(ROWS, 5);
        check.due("collected(2, 0)", desk.collected(ROWS, 0), 5);
        check.due("collected(2, 1)", desk.collected(ROWS, 1), 3);
        check.due("collected(2, 2)", desk.collected(ROWS, 2), 5);
        check.due("collected(1, 0)", desk.collected(BYTES, 0), 7);
    }

    private static void refusedChangesNothing() {
        PortDesk desk = new PortDesk();
        desk.collect(SIGNS, 65);
        desk.collect(SIGNS, 200);
        desk.collect(TURNS, 8);
        desk.collect(TURNS, -1);
        check.due("collect(0, 66) behind a refusal", desk.collect(SIGNS, 66), 2);
        check.due("collected(0, 1)", desk.collected(SIGNS, 1), 66);
        for (int kind = 0; kind < 8; kind++) {
            check.due("numbers(" + kind + ")", desk.numbers(kind), 0);
        }
        check.due("same()", desk.same(), true);
        check.dueTold("behind refusals", desk, 0, 0, 0, 0, 0, 0, PortDesk.NONE, 0);
    }

    private static void hundredOfEach() {
        PortDesk desk = new PortDesk();
        for (int what = 0; what < 4; what++) {
            for (int i = 1; i <= 100; i++) {
                check.due("the " + i + "th of " + what, desk.collect(what, valueOf(what, i)), i);
            }
            check.due("the 101st of " + what, desk.collect(what, valueOf(what, 101)), PortDesk.NONE);
        }
        check.due("same() with all full", desk.same(), true);
        for (int what = 0; what < 4; what++) {
            int w = what;
            check.due("collected(" + w + ", 0)", desk.collected(w, 0), valueOf(w, 1));
            check.due("collected(" + w + ", 99)", desk.collected(w, 99), valueOf(w, 100));
            check.dueThrow("collected(" + w + ", 100)", IndexOutOfBoundsException.class, () -> desk.collected(w, 100));
        }
    }

    private static long valueOf(int what, int i) {
        return what == SIGNS ? 32 + i % 90 : what == TURNS ? i % 8 : i;
    }

    private static void turnsMakeNumbers() {
        PortDesk desk = new PortDesk();
        desk.make(6);
        desk.collect(TURNS, 6);
        check.due("numbers(6)", desk.numbers(6), 2);
        check.due("number(6, 1)", desk.number(6, 1), 2);
        check.due("make(6) behind a turn", desk.make(6), 3);
        desk.drop(6, 3);
        desk.collect(TURNS, 6);
        check.due("number(6, 2) behind a drop and a turn", desk.number(6, 2), 4);
        desk.collect(TURNS, 0);
        check.due("numbers(0)", desk.numbers(0), 1);
        check.due("numbers(1)", desk.numbers(1), 0);
        desk.collect(BYTES, 1);
        desk.collect(ROWS, 1);
        check.due("numbers(1) behind a byte and a row", desk.numbers(1), 0);
    }

    private static void turnsBeyondFortyAreCollectedStill() {
        PortDesk desk = new PortDesk();
        Check.makeMany(desk, 5, 39);
        check.due("turn that makes the 40th", desk.collect(TURNS, 5), 1);
        check.due("numbers(5)", desk.numbers(5), 40);
        check.due("turn behind the 40th", desk.collect(TURNS, 5), 2);
        check.due("numbers(5)", desk.numbers(5), 40);
        desk.drop(5, 40);
        check.due("turn behind a drop of the 40th", desk.collect(TURNS, 5), 3);
        check.due("numbers(5)", desk.numbers(5), 39);
        check.due("collected(3, 2)", desk.collected(TURNS, 2), 5);
        check.due("turn of another kind", desk.collect(TURNS, 4), 4);
        check.due("numbers(4)", desk.numbers(4), 1);
        check.due("same()", desk.same(), true);
        // 41 would be known to the second desk if it had made one more.
        check.due("again(5, 41, 0)", desk.again(5, 41, 0), -2);
    }

    private static void secondDeskCollectsToo() {
        PortDesk desk = new PortDesk();
        desk.collect(SIGNS, 40);
        desk.collect(TURNS, 1);
        check.due("same() behind collecting", desk.same(), true);
        check.due("again(9, 1, 4) behind a turn", desk.again(9, 1, 4), 7);
        check.due("again(9, 2, 4) behind a turn", desk.again(9, 2, 4), -2);
    }

    private static void noneSuchCollected() {
        PortDesk desk = new PortDesk();
        desk.collect(ROWS, 8);
        desk.collect(ROWS, 9);
        for (int what : Check.outside(4)) {
            check.dueThrow("collected(" + what + ", 0)", IndexOutOfBoundsException.class, () -> desk.collected(what, 0));
        }
        for (int i : Check.outside(2)) {
            check.dueThrow("collected(2, " + i + ")", IndexOutOfBoundsException.class, () -> desk.collected(ROWS, i));
        }
        check.dueThrow("collected(1, 0)", IndexOutOfBoundsException.class, () -> desk.collected(BYTES, 0));
        check.dueThrow("collected(3, 1)", IndexOutOfBoundsException.class, () -> desk.collected(TURNS, 1));
    }
}
