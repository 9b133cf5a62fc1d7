/** The Terms: each sentence that names a boundary case, with a test of its own. */
public final class EdgesOfTermsTest {
    private static final int NONE = PortDesk.NONE;
    private static final long MIN = Long.MIN_VALUE;
    private static final long MAX = Long.MAX_VALUE;
    private static final Check check = new Check();

    public static void main(String[] args) {
        callsToTheLast();
        kinds();
        fortyOfAKind();
        neverAgain();
        callsTurnAroundToTheirKinds();
        callsThatAreNone();
        answersAreAnyLong();
        theSumWrapsAround();
        theAnswerWrapsAround();
        theFailedSumWrapsBack();
        throwsOnce();
        failuresAtTheEdgeNumbers();
        refusedInTheirOrder();
        numbersThatNeverWere();
        numbersThatWereDropped();
        toldOfNone();
        signs();
        bytes();
        rows();
        turns();
        hundredOfEach();
        turnsAsLongAsThereMayBeOne();
        logOfSixtyFour();
        againOfThisDeskNothing();
        theOneToldFirst();
        check.end();
    }

    private static void callsToTheLast() {
        check.by("An object is used for at most 512 calls after it has been made");
        PortDesk desk = new PortDesk();
        desk.make(0);
        for (int n = 2; n <= 510; n++) {
            check.due("call " + n + ": call(0, 1, 1)", desk.call(0, 1, 1), 3 + n - 1);
        }
        check.due("call 511: log(1, 63)", desk.log(1, 63), 3 + 509);
        check.due("call 512: told(0)", desk.told(0), 509);
    }

    private static void kinds() {
        check.by("KINDS 0 .. 7");
        PortDesk desk = new PortDesk();
        check.due("make(0)", desk.make(0), 1);
        check.due("make(7)", desk.make(7), 1);
        check.dueThrow("make(-1)", IllegalArgumentException.class, () -> desk.make(-1));
        check.dueThrow("make(8)", IllegalArgumentException.class, () -> desk.make(8));
        check.due("numbers(0)", desk.numbers(0), 1);
        check.due("numbers(7)", desk.numbers(7), 1);
    }

    private static void fortyOfAKind() {
        check.by("NUMBERS of a kind are 1, 2, .. (40 of a kind at most)");
        PortDesk desk = new PortDesk();
        check.due("the first make(7)", desk.make(7), 1);
        Check.makeMany(desk, 7, 38);
        check.due("the 40th make(7)", desk.make(7), 40);
        check.dueThrow("the 41st make(7)", IllegalStateException.class, () -> desk.make(7));
        check.due("make(6): a kind beside the full one", desk.make(6), 1);
        check.due("call(7, 40, 0)", desk.call(7, 40, 0), 120);
        check.due("call(7, 41, 0)", desk.call(7, 41, 0), -2);
        check.due("again(7, 40, 0)", desk.again(7, 40, 0), 120);
        check.due("again(7, 41, 0)", desk.again(7, 41, 0), -2);
    }

    private static void neverAgain() {
        check.by("a dropped number is KNOWN no more, and comes never again");
        PortDesk desk = new PortDesk();
        for (int number = 1; number <= 40; number++) {
            check.due("make(4)", desk.make(4), number);
            check.due("drop(4, " + number + ")", desk.drop(4, number), true);
            check.due("numbers(4)", desk.numbers(4), 0);
        }
        check.dueThrow("make(4) with all 40 dropped", IllegalStateException.class, () -> desk.make(4));
        check.due("number(4, 0)", desk.number(4, 0), NONE);
        for (int number = 1; number <= 40; number++) {
            check.due("call(4, " + number + ", 0)", desk.call(4, number, 0), -3);
        }
        check.due("same()", desk.same(), true);
    }

    private static void callsTurnAroundToTheirKinds() {
        check.by("call c wants a number of kind c mod 8, and goes to part c");
        PortDesk desk = new PortDesk();
        desk.make(7);
        check.due("call(7, 1, 5): the last before it turns around", desk.call(7, 1, 5), 8);
        check.due("call(8, 1, 5): kind 0 has none", desk.call(8, 1, 5), -2);
        check.due("call(11, 1, 5): kind 3 has none", desk.call(11, 1, 5), -2);
        desk.make(0);
        desk.make(3);
        check.due("call(8, 1, 6)", desk.call(8, 1, 6), 9);
        check.due("call(11, 1, 7)", desk.call(11, 1, 7), 10);
        check.due("sum(0, 0): call 8 goes not to part 0", desk.sum(0, 0), 0);
        check.due("sum(0, 8)", desk.sum(0, 8), 6);
        check.due("sum(0, 3): call 11 goes not to part 3", desk.sum(0, 3), 0);
        check.due("sum(0, 11)", desk.sum(0, 11), 7);
    }

    private static void callsThatAreNone() {
        check.by("CALLS 0 .. 11");
        for (int call : new int[] {-1, -8, -12, 12, 16, 19, Integer.MIN_VALUE, Integer.MAX_VALUE}) {
            PortDesk desk = new PortDesk();
            for (int kind = 0; kind < 8; kind++) {
                desk.make(kind);
            }
            check.due("call(" + call + ", 1, 5)", desk.call(call, 1, 5), -1);
            check.due("again(" + call + ", 1, 5)", desk.again(call, 1, 5), -1);
            check.dueTold("call " + call, desk, 0, 1, 0, 0, 0, 0, NONE, 0);
            check.due("call(0, 1, 5)", desk.call(0, 1, 5), 8);
            check.due("call(11, 1, 5)", desk.call(11, 1, 5), 8);
        }
    }

    private static void answersAreAnyLong() {
        check.by("PARTS 0 .. 11 have an ANSWER (any long; 0 at first)");
        PortDesk desk = new PortDesk();
        desk.make(0);
        desk.make(3);
        check.due("call(0, 1, 0)", desk.call(0, 1, 0), 3);
        check.due("call(11, 1, 0)", desk.call(11, 1, 0), 3);
        desk.answer(0, MIN);
        desk.answer(11, MAX - 3);
        check.due("call(0, 1, 0) of the least", desk.call(0, 1, 0), MIN + 3);
        check.due("call(11, 1, 0) of the most", desk.call(11, 1, 0), MAX);
    }

    private static void theSumWrapsAround() {
        check.by("the part's sum grows by the call's value .. (longs that wrap around)");
        PortDesk desk = new PortDesk();
        desk.make(0);
        desk.call(0, 1, MAX);
        check.due("sum(0, 0) at the most", desk.sum(0, 0), MAX);
        check.due("call(0, 1, 1) over the most", desk.call(0, 1, 1), MIN + 3);
        check.due("sum(0, 0) over the most", desk.sum(0, 0), MIN);
        check.due("call(0, 1, -1) under the least", desk.call(0, 1, -1), MIN + 2);
        check.due("sum(0, 0) under the least", desk.sum(0, 0), MAX);
        check.due("sum(1, 0) under the least", desk.sum(1, 0), MAX);
        check.due("again(0, 1, 1) over the most", desk.again(0, 1, 1), MIN + 3);
        check.due("sum(1, 0) over the most", desk.sum(1, 0), MIN);
        check.due("sum(0, 0)", desk.sum(0, 0), MAX);
    }

    private static void theAnswerWrapsAround() {
        check.by("its ANSWER, plus 3 times the number, plus its sum (longs that wrap around)");
        PortDesk desk = new PortDesk();
        Check.makeMany(desk, 0, 40);
        desk.answer(0, MAX - 120);
        check.due("call(0, 40, 0): the most", desk.call(0, 40, 0), MAX);
        desk.answer(0, MAX - 119);
        check.due("call(0, 40, 0): one over it", desk.call(0, 40, 0), MIN);
        check.due("again(0, 40, 0): one over it", desk.again(0, 40, 0), MIN);
        desk.answer(0, MAX);
        check.due("call(0, 1, MAX): twice the most and 3", desk.call(0, 1, MAX), 1);
        desk.answer(8, MIN);
        check.due("call(8, 1, MIN): twice the least and 3", desk.call(8, 1, MIN), 3);
        check.due("told(0)", desk.told(0), 4);
    }

    private static void theFailedSumWrapsBack() {
        check.by("its sum having grown already: the desk CATCHES that, gives the sum its old value back");
        PortDesk desk = new PortDesk();
        desk.make(0);
        for (long sum : new long[] {MAX, MIN, 0, -1}) {
            desk.call(0, 1, sum - desk.sum(0, 0));
            for (long value : new long[] {1, -1, MIN, MAX}) {
                desk.fails(0, 1);
                check.due("call(0, 1, " + value + ") at " + sum, desk.call(0, 1, value), -101);
                check.due("sum(0, 0) behind " + value, desk.sum(0, 0), sum);
                check.due("sum(1, 0) behind " + value, desk.sum(1, 0), sum);
            }
        }
    }

    private static void throwsOnce() {
        check.by("answers -100 - the failure kind; the part throws no more");
        for (int kind = 1; kind <= 5; kind++) {
            PortDesk desk = new PortDesk();
            desk.make(0);
            desk.fails(0, kind);
            desk.fails(0, kind);
            check.due("call(0, 1, 2) told twice to throw by " + kind, desk.call(0, 1, 2), -100 - kind);
            check.due("call(0, 1, 2) behind it", desk.call(0, 1, 2), 5);
            check.due("again(0, 1, 2) behind it", desk.again(0, 1, 2), 7);
            check.dueTold("failure " + kind, desk, 1, 0, 0, 0, 1, kind, 0, 1);
        }
    }

    private static void failuresAtTheEdgeNumbers() {
        check.by("5 the latest failure's kind (0 none), 6 its part (NONE none), 7 its number (0 none)");
        PortDesk desk = new PortDesk();
        Check.makeMany(desk, 3, 40);
        Check.makeMany(desk, 0, 1);
        desk.fails(11, 5);
        desk.call(11, 40, 0);
        check.dueTold("the last part, kind and number", desk, 0, 0, 0, 0, 1, 5, 11, 40);
        desk.fails(0, 1);
        desk.call(0, 1, 0);
        check.dueTold("the first part, kind and number", desk, 0, 0, 0, 0, 2, 1, 0, 1);
        desk.fails(11, 2);
        desk.again(11, 39, 0);
        check.dueTold("a failure of the second desk alone", desk, 0, 0, 0, 0, 2, 1, 0, 1);
    }

    private static void refusedInTheirOrder() {
        check.by("Any other call: -1 no such call, -2 a number that never was, -3 one that was dropped");
        PortDesk desk = new PortDesk();
        Check.makeMany(desk, 4, 2);
        desk.drop(4, 1);
        check.due("call(12, 3, 0): no such call, nor number", desk.call(12, 3, 0), -1);
        check.due("call(12, 1, 0): no such call, a dropped number", desk.call(12, 1, 0), -1);
        check.due("call(-4, 1, 0): no such call, a dropped number", desk.call(-4, 1, 0), -1);
        check.due("call(4, 3, 0)", desk.call(4, 3, 0), -2);
        check.due("call(4, 1, 0)", desk.call(4, 1, 0), -3);
        check.due("call(4, 2, 0)", desk.call(4, 2, 0), 6);
        check.dueTold("each by its own", desk, 1, 3, 1, 1, 0, 0, NONE, 0);
    }

    private static void numbersThatNeverWere() {
        check.by("-2 a number that never was");
        PortDesk desk = new PortDesk();
        check.due("call(0, 1, 0) of an empty kind", desk.call(0, 1, 0), -2);
        Check.makeMany(desk, 0, 2);
        check.due("call(0, 0, 0)", desk.call(0, 0, 0), -2);
        check.due("call(0, -1, 0)", desk.call(0, -1, 0), -2);
        check.due("call(0, least, 0)", desk.call(0, Integer.MIN_VALUE, 0), -2);
        check.due("call(0, 3, 0): the next to come", desk.call(0, 3, 0), -2);
        check.due("call(0, most, 0)", desk.call(0, Integer.MAX_VALUE, 0), -2);
        desk.drop(0, 2);
        check.due("call(0, 3, 0): the next to come behind a drop", desk.call(0, 3, 0), -2);
        desk.make(0);
        check.due("call(0, 3, 0): it has come", desk.call(0, 3, 0), 9);
        check.dueTold("never were", desk, 1, 0, 7, 0, 0, 0, NONE, 0);
    }

    private static void numbersThatWereDropped() {
        check.by("-3 one that was dropped");
        PortDesk desk = new PortDesk();
        Check.makeMany(desk, 0, 40);
        desk.drop(0, 1);
        desk.drop(0, 40);
        for (int call : new int[] {0, 8}) {
            check.due("call(" + call + ", 1, 0): the first", desk.call(call, 1, 0), -3);
            check.due("call(" + call + ", 2, 0)", desk.call(call, 2, 0), 6);
            check.due("call(" + call + ", 39, 0)", desk.call(call, 39, 0), 117);
            check.due("call(" + call + ", 40, 0): the last", desk.call(call, 40, 0), -3);
            check.due("again(" + call + ", 40, 0): the last", desk.again(call, 40, 0), -3);
        }
        check.dueTold("dropped", desk, 4, 0, 0, 4, 0, 0, NONE, 0);
    }

    private static void toldOfNone() {
        check.by("(0 none), 6 its part (NONE none), 7 its number (0 none)");
        PortDesk desk = new PortDesk();
        check.dueTold("new", desk, 0, 0, 0, 0, 0, 0, NONE, 0);
        desk.make(0);
        desk.fails(0, 3);
        desk.call(0, 2, 0);
        desk.fails(0, 0);
        desk.call(0, 1, 0);
        check.dueTold("none has been caught", desk, 1, 0, 1, 0, 0, 0, NONE, 0);
    }

    private static void signs() {
        check.by("signs 32 .. 126");
        dueEdges(0, 32, 126);
    }

    private static void bytes() {
        check.by("bytes 0 .. 255");
        dueEdges(1, 0, 255);
    }

    private static void turns() {
        check.by("turns 0 .. 7");
        dueEdges(3, 0, 7);
    }

    private static void dueEdges(int what, long least, long most) {
        PortDesk desk = new PortDesk();
        // The last two would be within if a long were cut to an int.
        long[] refused = {least - 1, most + 1, MIN, MAX, (1L << 32) + least, (-1L << 32) + most};
        for (long v : refused) {
            check.due("collect(" + what + ", " + v + ")", desk.collect(what, v), NONE);
        }
        check.dueThrow("collected(" + what + ", 0)", IndexOutOfBoundsException.class, () -> desk.collected(what, 0));
        check.due("collect(" + what + ", " + least + ")", desk.collect(what, least), 1);
        check.due("collect(" + what + ", " + most + ")", desk.collect(what, most), 2);
        check.due("collected(" + what + ", 0)", desk.collected(what, 0), least);
        check.due("collected(" + what + ", 1)", desk.collected(what, 1), most);
        check.due("same()", desk.same(), true);
    }

    private static void rows() {
        check.by("rows any long");
        PortDesk desk = new PortDesk();
        long[] values = {MIN, MIN + 1, -1, 0, 1, 1L << 32, MAX - 1, MAX};
        for (int i = 0; i < values.length; i++) {
            check.due("collect(2, " + values[i] + ")", desk.collect(2, values[i]), i + 1);
            check.due("collected(2, " + i + ")", desk.collected(2, i), values[i]);
        }
    }

    private static void hundredOfEach() {
        check.by("100 of each at most");
        for (int full = 0; full < 4; full++) {
            PortDesk desk = new PortDesk();
            for (int i = 1; i <= 100; i++) {
                check.due("collect(" + full + ", ..): the " + i + "th", desk.collect(full, valueOf(full)), i);
            }
            for (int what = 0; what < 4; what++) {
                int want = what == full ? NONE : 1;
                check.due("collect(" + what + ", ..) with " + full + " full", desk.collect(what, valueOf(what)), want);
            }
            check.due("collect(" + full + ", ..) once more", desk.collect(full, valueOf(full)), NONE);
            check.due("same()", desk.same(), true);
        }
    }

    private static long valueOf(int what) {
        return what == 0 ? 65 : 5;
    }

    private static void turnsAsLongAsThereMayBeOne() {
        check.by("A turn that is collected makes one more number of that kind, as long as there may be one");
        PortDesk desk = new PortDesk();
        for (int i = 1; i <= 100; i++) {
            check.due("collect(3, 7): the " + i + "th", desk.collect(3, 7), i);
            check.due("numbers(7)", desk.numbers(7), Math.min(i, 40));
        }
        check.dueThrow("make(7) behind turns", IllegalStateException.class, () -> desk.make(7));
        check.due("collect(3, 6): the 101st is not collected", desk.collect(3, 6), NONE);
        check.due("numbers(6): nor does it make one", desk.numbers(6), 0);
        check.due("make(6)", desk.make(6), 1);
        check.due("again(6, 2, 0)", desk.again(6, 2, 0), -2);
        check.due("again(7, 40, 0)", desk.again(7, 40, 0), 120);
        check.due("again(7, 41, 0)", desk.again(7, 41, 0), -2);
    }

    private static void logOfSixtyFour() {
        check.by("THE LOG: what calls answered, the latest 64, in order");
        PortDesk desk = new PortDesk();
        desk.make(0);
        for (int n = 1; n <= 130; n++) {
            desk.call(0, 1, 1);
            // The n-th call has answered 3 + n.
            check.due("log(0, 0) behind " + n, desk.log(0, 0), 3 + Math.max(1, n - 63));
            check.due("log(0, last) behind " + n, desk.log(0, Math.min(n, 64) - 1), 3 + n);
        }
        check.dueThrow("log(0, 64)", IndexOutOfBoundsException.class, () -> desk.log(0, 64));
        check.dueThrow("log(1, 64)", IndexOutOfBoundsException.class, () -> desk.log(1, 64));
    }

    private static void againOfThisDeskNothing() {
        check.by("the second desk's log and what it is told grow by it; nothing of this one");
        PortDesk desk = new PortDesk();
        desk.make(0);
        for (int n = 0; n < 65; n++) {
            desk.again(0, 1, 1);
        }
        check.due("log(1, 0): its own first is kept no more", desk.log(1, 0), 5);
        check.due("log(1, 63)", desk.log(1, 63), 68);
        check.dueThrow("log(1, 64)", IndexOutOfBoundsException.class, () -> desk.log(1, 64));
        check.dueThrow("log(0, 0): empty still", IndexOutOfBoundsException.class, () -> desk.log(0, 0));
        check.due("sum(0, 0)", desk.sum(0, 0), 0);
        check.due("sum(1, 0)", desk.sum(1, 0), 65);
        check.dueTold("of this desk", desk, 0, 0, 0, 0, 0, 0, NONE, 0);
        check.due("call(0, 1, 1)", desk.call(0, 1, 1), 4);
        check.due("log(0, 0)", desk.log(0, 0), 4);
        check.due("log(1, 63)", desk.log(1, 63), 69);
    }

    private static void theOneToldFirst() {
        check.by("Of several exceptions the one told first is thrown");
        PortDesk desk = new PortDesk();
        for (int kind = 0; kind < 8; kind++) {
            Check.makeMany(desk, kind, 40);
        }
        check.dueThrow("make(-1) with all kinds full", IllegalArgumentException.class, () -> desk.make(-1));
        check.dueThrow("make(8) with all kinds full", IllegalArgumentException.class, () -> desk.make(8));
        for (int kind = 0; kind < 8; kind++) {
            int k = kind;
            check.dueThrow("make(" + k + ")", IllegalStateException.class, () -> desk.make(k));
        }
    }
}
