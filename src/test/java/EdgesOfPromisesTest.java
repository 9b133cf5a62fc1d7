/** The promises 1 to 15: each sentence that names a boundary case, with a test of its own. */
public final class EdgesOfPromisesTest {
    private static final int NONE = PortDesk.NONE;
    private static final int LEAST = Integer.MIN_VALUE;
    private static final int MOST = Integer.MAX_VALUE;
    private static final Class<IllegalArgumentException> ARGUMENT = IllegalArgumentException.class;
    private static final Class<IllegalStateException> STATE = IllegalStateException.class;
    private static final Class<IndexOutOfBoundsException> PLACE = IndexOutOfBoundsException.class;
    private static final Check check = new Check();

    public static void main(String[] args) {
        newObjectIsEmpty();
        collectedOfThisWhat();
        collectNoSuchWhat();
        collectWhatCannotBe();
        collectBehindAHundred();
        answerNoSuchPart();
        failsNotAnyMore();
        failsNoSuchPart();
        failsNoSuchKind();
        makeNoSuchKind();
        makeBehindForty();
        dropNoSuchKind();
        dropNotKnown();
        callAtItsEdges();
        againAtItsEdges();
        againRefused();
        toldNoSuch();
        numbersKnown();
        numbersNoSuchKind();
        numberAtItsEdges();
        numberNoSuchKind();
        collectedAtItsEdges();
        collectedNoSuchWhat();
        logAtItsEdges();
        logOfTheSecondAtItsEdges();
        logNoSuchDesk();
        sumAtItsEdges();
        sumNoSuchDeskOrPart();
        sameWithNothing();
        sameWithAllFull();
        sameButForOneCount();
        sameButForOneFailure();
        sameButForOneSum();
        check.end();
    }

    private static PortDesk withOneOfEachKind() {
        PortDesk desk = new PortDesk();
        for (int kind = 0; kind < 8; kind++) {
            desk.make(kind);
        }
        return desk;
    }

    private static void newObjectIsEmpty() {
        check.by("Promise 1: Nothing made; a second desk alike");
        PortDesk desk = new PortDesk();
        for (int kind = 0; kind < 8; kind++) {
            check.due("numbers(" + kind + ")", desk.numbers(kind), 0);
            check.due("number(" + kind + ", 0)", desk.number(kind, 0), NONE);
        }
        for (int what = 0; what < 4; what++) {
            int w = what;
            check.dueThrow("collected(" + w + ", 0)", PLACE, () -> desk.collected(w, 0));
        }
        for (int d = 0; d < 2; d++) {
            int at = d;
            check.dueThrow("log(" + at + ", 0)", PLACE, () -> desk.log(at, 0));
            for (int part = 0; part < 12; part++) {
                check.due("sum(" + at + ", " + part + ")", desk.sum(at, part), 0);
            }
        }
        check.dueTold("new", desk, 0, 0, 0, 0, 0, 0, NONE, 0);
        check.due("same()", desk.same(), true);
        check.due("again(0, 1, 0)", desk.again(0, 1, 0), -2);
    }

    private static void collectedOfThisWhat() {
        check.by("Promise 2: how many of this what");
        PortDesk desk = new PortDesk();
        check.due("collect(0, 32)", desk.collect(0, 32), 1);
        check.due("collect(3, 7)", desk.collect(3, 7), 1);
        check.due("collect(3, 7)", desk.collect(3, 7), 2);
        check.due("collect(0, 31): refused", desk.collect(0, 31), NONE);
        check.due("collect(0, 32): the refused one is not counted", desk.collect(0, 32), 2);
        check.due("collect(1, 0)", desk.collect(1, 0), 1);
        check.due("collect(2, 0)", desk.collect(2, 0), 1);
    }

    private static void collectNoSuchWhat() {
        check.by("Promise 2: NONE if there is no such what");
        PortDesk desk = new PortDesk();
        for (int what : new int[] {LEAST, -4, -1, 4, 5, 256, MOST}) {
            // 5 can be a byte, a row and a turn, 65 a sign.
            check.due("collect(" + what + ", 5)", desk.collect(what, 5), NONE);
            check.due("collect(" + what + ", 65)", desk.collect(what, 65), NONE);
        }
        check.due("numbers(5)", desk.numbers(5), 0);
        check.due("collect(0, 65)", desk.collect(0, 65), 1);
        check.due("collect(3, 5)", desk.collect(3, 5), 1);
    }

    private static void collectWhatCannotBe() {
        check.by("Promise 2: NONE if .. v can't be");
        PortDesk desk = new PortDesk();
        check.due("collect(0, 31)", desk.collect(0, 31), NONE);
        check.due("collect(0, 127)", desk.collect(0, 127), NONE);
        check.due("collect(1, -1)", desk.collect(1, -1), NONE);
        check.due("collect(1, 256)", desk.collect(1, 256), NONE);
        check.due("collect(3, -1)", desk.collect(3, -1), NONE);
        check.due("collect(3, 8)", desk.collect(3, 8), NONE);
        for (int what = 0; what < 4; what++) {
            int w = what;
            check.dueThrow("collected(" + w + ", 0)", PLACE, () -> desk.collected(w, 0));
        }
        for (int kind = 0; kind < 8; kind++) {
            check.due("numbers(" + kind + ")", desk.numbers(kind), 0);
        }
    }

    private static void collectBehindAHundred() {
        check.by("Promise 2: NONE if .. there are 100");
        PortDesk desk = new PortDesk();
        for (int i = 0; i < 100; i++) {
            check.due("collect(2, " + i + ")", desk.collect(2, i), i + 1);
        }
        check.due("collect(2, 100)", desk.collect(2, 100), NONE);
        check.due("collect(2, 0)", desk.collect(2, 0), NONE);
        for (int i = 0; i < 100; i++) {
            check.due("collected(2, " + i + ")", desk.collected(2, i), i);
        }
        check.due("collect(1, 0)", desk.collect(1, 0), 1);
        check.due("same()", desk.same(), true);
    }

    private static void answerNoSuchPart() {
        check.by("Promise 3: false if there is no such part");
        PortDesk desk = withOneOfEachKind();
        for (int part : new int[] {LEAST, -12, -1, 12, 13, 24, MOST}) {
            check.due("answer(" + part + ", 9)", desk.answer(part, 9), false);
        }
        for (int part = 0; part < 12; part++) {
            check.due("call(" + part + ", 1, 0)", desk.call(part, 1, 0), 3);
            check.due("again(" + part + ", 1, 0)", desk.again(part, 1, 0), 3);
        }
        check.due("answer(0, 9)", desk.answer(0, 9), true);
        check.due("answer(11, 8)", desk.answer(11, 8), true);
        check.due("call(0, 1, 0)", desk.call(0, 1, 0), 12);
        check.due("call(11, 1, 0)", desk.call(11, 1, 0), 11);
    }

    private static void failsNotAnyMore() {
        check.by("Promise 4: A part is told to THROW (0: not any more): true");
        PortDesk desk = withOneOfEachKind();
        check.due("fails(11, 0): it threw not", desk.fails(11, 0), true);
        check.due("call(11, 1, 0)", desk.call(11, 1, 0), 3);
        check.due("fails(11, 5)", desk.fails(11, 5), true);
        check.due("fails(11, 0)", desk.fails(11, 0), true);
        check.due("call(11, 1, 0)", desk.call(11, 1, 0), 3);
        check.due("again(11, 1, 0)", desk.again(11, 1, 0), 3);
        check.due("fails(0, 1)", desk.fails(0, 1), true);
        check.due("fails(11, 0): another part", desk.fails(11, 0), true);
        check.due("call(0, 1, 0)", desk.call(0, 1, 0), -101);
    }

    private static void failsNoSuchPart() {
        check.by("Promise 4: false if there is no such part");
        PortDesk desk = withOneOfEachKind();
        for (int part : new int[] {LEAST, -12, -1, 12, 13, 24, MOST}) {
            for (int kind = 0; kind <= 5; kind++) {
                check.due("fails(" + part + ", " + kind + ")", desk.fails(part, kind), false);
            }
        }
        for (int part = 0; part < 12; part++) {
            check.due("call(" + part + ", 1, 0)", desk.call(part, 1, 0), 3);
        }
        check.due("told(4)", desk.told(4), 0);
    }

    private static void failsNoSuchKind() {
        check.by("Promise 4: false if there is no such .. failure kind");
        PortDesk desk = withOneOfEachKind();
        for (int kind : new int[] {LEAST, -5, -1, 6, 7, MOST}) {
            check.due("fails(0, " + kind + ")", desk.fails(0, kind), false);
            check.due("call(0, 1, 0): it throws not", desk.call(0, 1, 0), 3);
            desk.fails(0, 1);
            check.due("fails(0, " + kind + ") with a failure told", desk.fails(0, kind), false);
            check.due("call(0, 1, 0): it throws as it was told", desk.call(0, 1, 0), -101);
        }
    }

    private static void makeNoSuchKind() {
        check.by("Promise 5: IllegalArgumentException if there is no such kind");
        PortDesk desk = new PortDesk();
        for (int kind : new int[] {LEAST, -8, -1, 8, 9, 16, MOST}) {
            check.dueThrow("make(" + kind + ")", ARGUMENT, () -> desk.make(kind));
        }
        for (int kind = 0; kind < 8; kind++) {
            check.due("make(" + kind + ")", desk.make(kind), 1);
        }
    }

    private static void makeBehindForty() {
        check.by("Promise 5: IllegalStateException if there are 40");
        PortDesk desk = new PortDesk();
        Check.makeMany(desk, 0, 39);
        check.due("make(0)", desk.make(0), 40);
        check.dueThrow("make(0)", STATE, () -> desk.make(0));
        check.dueThrow("make(0) once more", STATE, () -> desk.make(0));
        check.due("drop(0, 1)", desk.drop(0, 1), true);
        check.dueThrow("make(0): 40 were made", STATE, () -> desk.make(0));
        check.due("numbers(0)", desk.numbers(0), 39);
        check.due("make(1)", desk.make(1), 1);
        check.due("same()", desk.same(), true);
    }

    private static void dropNoSuchKind() {
        check.by("Promise 6: false if there is no such kind");
        PortDesk desk = withOneOfEachKind();
        for (int kind : new int[] {LEAST, -8, -1, 8, 9, 16, MOST}) {
            check.due("drop(" + kind + ", 1)", desk.drop(kind, 1), false);
        }
        for (int kind = 0; kind < 8; kind++) {
            check.due("numbers(" + kind + ")", desk.numbers(kind), 1);
        }
        check.due("drop(0, 1)", desk.drop(0, 1), true);
        check.due("drop(7, 1)", desk.drop(7, 1), true);
    }

    private static void dropNotKnown() {
        check.by("Promise 6: false if .. it is not KNOWN");
        PortDesk desk = new PortDesk();
        check.due("drop(0, 1) of an empty kind", desk.drop(0, 1), false);
        Check.makeMany(desk, 0, 40);
        // A shift by these, or by one less, would meet a known number's bit.
        for (int number : new int[] {LEAST, LEAST + 1, -63, -24, -1, 0, 41, 64, 65, 104, MOST}) {
            check.due("drop(0, " + number + ")", desk.drop(0, number), false);
        }
        check.due("numbers(0)", desk.numbers(0), 40);
        check.due("drop(0, 1)", desk.drop(0, 1), true);
        check.due("drop(0, 1) again", desk.drop(0, 1), false);
        check.due("drop(0, 40)", desk.drop(0, 40), true);
        check.due("drop(0, 40) again", desk.drop(0, 40), false);
        check.due("drop(1, 2): known of kind 0 alone", desk.drop(1, 2), false);
        check.due("numbers(0)", desk.numbers(0), 38);
        check.due("same()", desk.same(), true);
    }

    private static void callAtItsEdges() {
        check.by("Promise 7: A CALL");
        PortDesk desk = withOneOfEachKind();
        check.due("call(0, 1, 1)", desk.call(0, 1, 1), 4);
        check.due("call(11, 1, 1)", desk.call(11, 1, 1), 4);
        check.due("call(-1, 1, 1)", desk.call(-1, 1, 1), -1);
        check.due("call(12, 1, 1)", desk.call(12, 1, 1), -1);
        check.due("call(0, 0, 1)", desk.call(0, 0, 1), -2);
        check.due("call(0, 2, 1)", desk.call(0, 2, 1), -2);
        desk.drop(0, 1);
        check.due("call(0, 1, 1)", desk.call(0, 1, 1), -3);
        long[] want = {4, 4, -1, -1, -2, -2, -3};
        for (int i = 0; i < want.length; i++) {
            check.due("log(0, " + i + ")", desk.log(0, i), want[i]);
            check.due("log(1, " + i + ")", desk.log(1, i), want[i]);
        }
        check.dueTold("behind all", desk, 2, 2, 2, 1, 0, 0, NONE, 0);
    }

    private static void againAtItsEdges() {
        check.by("Promise 8: The same, of the second desk alone");
        PortDesk desk = withOneOfEachKind();
        check.due("again(0, 1, 1)", desk.again(0, 1, 1), 4);
        check.due("again(11, 1, 1)", desk.again(11, 1, 1), 4);
        check.due("sum(1, 0)", desk.sum(1, 0), 1);
        check.due("sum(1, 11)", desk.sum(1, 11), 1);
        check.due("sum(0, 0)", desk.sum(0, 0), 0);
        check.due("sum(0, 11)", desk.sum(0, 11), 0);
        desk.fails(11, 5);
        check.due("again(11, 1, 1)", desk.again(11, 1, 1), -105);
        check.due("sum(1, 11): its old value", desk.sum(1, 11), 1);
        check.due("again(11, 1, 1): it throws no more", desk.again(11, 1, 1), 5);
        check.due("call(11, 1, 1): this desk's throws still", desk.call(11, 1, 1), -105);
        check.due("log(1, 4): the second one's answered", desk.log(1, 4), 6);
        check.due("call(11, 1, 1): this desk's throws no more", desk.call(11, 1, 1), 4);
    }

    private static void againRefused() {
        check.by("Promise 8: The same .. (refused)");
        PortDesk desk = withOneOfEachKind();
        check.due("again(-1, 1, 1)", desk.again(-1, 1, 1), -1);
        check.due("again(12, 1, 1)", desk.again(12, 1, 1), -1);
        check.due("again(0, 0, 1)", desk.again(0, 0, 1), -2);
        check.due("again(0, 2, 1)", desk.again(0, 2, 1), -2);
        desk.drop(3, 1);
        check.due("again(11, 1, 1)", desk.again(11, 1, 1), -3);
        long[] want = {-1, -1, -2, -2, -3};
        for (int i = 0; i < want.length; i++) {
            check.due("log(1, " + i + ")", desk.log(1, i), want[i]);
        }
        check.dueThrow("log(1, 5)", PLACE, () -> desk.log(1, 5));
        check.dueThrow("log(0, 0)", PLACE, () -> desk.log(0, 0));
        check.dueTold("of this desk", desk, 0, 0, 0, 0, 0, 0, NONE, 0);
        check.due("sum(1, 0)", desk.sum(1, 0), 0);
        check.due("sum(1, 11)", desk.sum(1, 11), 0);
    }

    private static void toldNoSuch() {
        check.by("Promise 9: What is TOLD (0 .. 7). IndexOutOfBoundsException if there is no such");
        PortDesk desk = new PortDesk();
        for (int which : new int[] {LEAST, -8, -1, 8, 9, 16, MOST}) {
            check.dueThrow("told(" + which + ")", PLACE, () -> desk.told(which));
        }
        check.due("told(0)", desk.told(0), 0);
        check.due("told(7)", desk.told(7), 0);
    }

    private static void numbersKnown() {
        check.by("Promise 10: How many numbers of a kind are KNOWN");
        PortDesk desk = new PortDesk();
        check.due("numbers(7) of none", desk.numbers(7), 0);
        Check.makeMany(desk, 7, 40);
        check.due("numbers(7) of all", desk.numbers(7), 40);
        for (int number = 40; number >= 1; number--) {
            desk.drop(7, number);
            check.due("numbers(7)", desk.numbers(7), number - 1);
        }
        check.due("numbers(0)", desk.numbers(0), 0);
    }

    private static void numbersNoSuchKind() {
        check.by("Promise 10: NONE if there is no such kind");
        PortDesk desk = withOneOfEachKind();
        for (int kind : new int[] {LEAST, -8, -1, 8, 9, 16, MOST}) {
            check.due("numbers(" + kind + ")", desk.numbers(kind), NONE);
        }
        check.due("numbers(0)", desk.numbers(0), 1);
        check.due("numbers(7)", desk.numbers(7), 1);
    }

    private static void numberAtItsEdges() {
        check.by("Promise 11: The i-th KNOWN number of a kind, ascending, the first at 0; NONE without");
        PortDesk desk = new PortDesk();
        dueNumbers(desk, 0);
        Check.makeMany(desk, 0, 40);
        check.due("number(0, 0)", desk.number(0, 0), 1);
        check.due("number(0, 39)", desk.number(0, 39), 40);
        dueNumbers(desk, 40);
        desk.drop(0, 1);
        desk.drop(0, 40);
        check.due("number(0, 0) without 1", desk.number(0, 0), 2);
        check.due("number(0, 37) without 40", desk.number(0, 37), 39);
        dueNumbers(desk, 38);
        for (int number = 2; number <= 39; number++) {
            desk.drop(0, number);
        }
        dueNumbers(desk, 0);
    }

    /** None is before the first or behind the last of this many. */
    private static void dueNumbers(PortDesk desk, int many) {
        for (int i : new int[] {LEAST, -64, -1, many, many + 1, 64, MOST}) {
            check.due("number(0, " + i + ") of " + many, desk.number(0, i), NONE);
        }
    }

    private static void numberNoSuchKind() {
        check.by("Promise 11: IllegalArgumentException if there is no such kind");
        PortDesk desk = withOneOfEachKind();
        for (int kind : new int[] {LEAST, -8, -1, 8, 9, 16, MOST}) {
            check.dueThrow("number(" + kind + ", 0)", ARGUMENT, () -> desk.number(kind, 0));
            check.dueThrow("number(" + kind + ", -1)", ARGUMENT, () -> desk.number(kind, -1));
            check.dueThrow("number(" + kind + ", 1)", ARGUMENT, () -> desk.number(kind, 1));
        }
        check.due("number(0, 0)", desk.number(0, 0), 1);
        check.due("number(7, 0)", desk.number(7, 0), 1);
    }

    private static void collectedAtItsEdges() {
        check.by("Promise 12: The i-th COLLECTED of a what, the first at 0. IndexOutOfBoundsException if there is none such");
        for (int many : new int[] {0, 1, 2, 99, 100}) {
            PortDesk desk = new PortDesk();
            for (int i = 0; i < many; i++) {
                desk.collect(1, i);
                desk.collect(3, i % 8);
            }
            for (int i : new int[] {LEAST, -100, -1, many, many + 1, 100, 101, 200, MOST}) {
                check.dueThrow("collected(1, " + i + ") of " + many, PLACE, () -> desk.collected(1, i));
                check.dueThrow("collected(3, " + i + ") of " + many, PLACE, () -> desk.collected(3, i));
            }
            if (many > 0) {
                check.due("collected(1, 0)", desk.collected(1, 0), 0);
                check.due("collected(1, last)", desk.collected(1, many - 1), many - 1);
                check.due("collected(3, last)", desk.collected(3, many - 1), (many - 1) % 8);
            }
            check.dueThrow("collected(0, 0)", PLACE, () -> desk.collected(0, 0));
        }
    }

    private static void collectedNoSuchWhat() {
        check.by("Promise 12: IndexOutOfBoundsException if there is none such (what)");
        PortDesk desk = new PortDesk();
        for (int what = 0; what < 4; what++) {
            desk.collect(what, what == 0 ? 65 : 5);
        }
        for (int what : new int[] {LEAST, -4, -1, 4, 5, 8, MOST}) {
            check.dueThrow("collected(" + what + ", 0)", PLACE, () -> desk.collected(what, 0));
            check.dueThrow("collected(" + what + ", -1)", PLACE, () -> desk.collected(what, -1));
        }
        check.due("collected(0, 0)", desk.collected(0, 0), 65);
        check.due("collected(3, 0)", desk.collected(3, 0), 5);
    }

    private static void logAtItsEdges() {
        check.by("Promise 13: Entry i of the log, the oldest that is kept at 0. IndexOutOfBoundsException if there is none such");
        for (int calls : new int[] {0, 1, 63, 64, 65, 127, 128, 129}) {
            PortDesk desk = new PortDesk();
            desk.make(0);
            for (int n = 0; n < calls; n++) {
                desk.call(0, 1, 1);
            }
            int kept = Math.min(calls, 64);
            for (int d = 0; d < 2; d++) {
                dueNoEntries(desk, d, kept);
                if (kept > 0) {
                    // The n-th call has answered 3 + n.
                    check.due("log(" + d + ", 0) of " + calls, desk.log(d, 0), 3 + calls - kept + 1);
                    check.due("log(" + d + ", last) of " + calls, desk.log(d, kept - 1), 3 + calls);
                }
            }
        }
    }

    /** None is before the first or behind the last of this many. */
    private static void dueNoEntries(PortDesk desk, int at, int many) {
        for (int i : new int[] {LEAST, -64, -1, many, many + 1, 64, 65, 128, MOST}) {
            check.dueThrow("log(" + at + ", " + i + ") of " + many, PLACE, () -> desk.log(at, i));
        }
    }

    private static void logOfTheSecondAtItsEdges() {
        check.by("Promise 13: of this desk (0) or the second one (1)");
        PortDesk desk = new PortDesk();
        desk.make(0);
        for (int n = 0; n < 63; n++) {
            desk.call(0, 1, 0);
        }
        check.due("again(0, 1, 7)", desk.again(0, 1, 7), 10);
        check.due("log(1, 63): its 64th", desk.log(1, 63), 10);
        check.dueThrow("log(0, 63): this one has 63", PLACE, () -> desk.log(0, 63));
        check.due("call(0, 1, 1)", desk.call(0, 1, 1), 4);
        check.due("log(0, 63)", desk.log(0, 63), 4);
        check.due("log(1, 63)", desk.log(1, 63), 11);
        check.due("log(1, 62)", desk.log(1, 62), 10);
        check.due("log(0, 62)", desk.log(0, 62), 3);
        dueNoEntries(desk, 0, 64);
        dueNoEntries(desk, 1, 64);
    }

    private static void logNoSuchDesk() {
        check.by("Promise 13: IndexOutOfBoundsException if there is none such (desk)");
        PortDesk desk = new PortDesk();
        desk.call(0, 0, 0);
        for (int d : new int[] {LEAST, -2, -1, 2, 3, MOST}) {
            check.dueThrow("log(" + d + ", 0)", PLACE, () -> desk.log(d, 0));
            check.dueThrow("log(" + d + ", -1)", PLACE, () -> desk.log(d, -1));
            check.dueThrow("log(" + d + ", 1)", PLACE, () -> desk.log(d, 1));
        }
        check.due("log(0, 0)", desk.log(0, 0), -2);
        check.due("log(1, 0)", desk.log(1, 0), -2);
    }

    private static void sumAtItsEdges() {
        check.by("Promise 14: A part's sum; of this desk (0) or the second one (1)");
        PortDesk desk = withOneOfEachKind();
        desk.call(0, 1, Long.MIN_VALUE);
        desk.call(11, 1, Long.MAX_VALUE);
        check.due("sum(0, 0)", desk.sum(0, 0), Long.MIN_VALUE);
        check.due("sum(1, 0)", desk.sum(1, 0), Long.MIN_VALUE);
        check.due("sum(0, 11)", desk.sum(0, 11), Long.MAX_VALUE);
        check.due("sum(1, 11)", desk.sum(1, 11), Long.MAX_VALUE);
        for (int part = 1; part < 11; part++) {
            check.due("sum(0, " + part + ")", desk.sum(0, part), 0);
            check.due("sum(1, " + part + ")", desk.sum(1, part), 0);
        }
    }

    private static void sumNoSuchDeskOrPart() {
        check.by("Promise 14: IllegalArgumentException if there is no such desk or part");
        PortDesk desk = new PortDesk();
        for (int part : new int[] {LEAST, -12, -1, 12, 13, 24, MOST}) {
            check.dueThrow("sum(0, " + part + ")", ARGUMENT, () -> desk.sum(0, part));
            check.dueThrow("sum(1, " + part + ")", ARGUMENT, () -> desk.sum(1, part));
        }
        for (int d : new int[] {LEAST, -2, -1, 2, 3, MOST}) {
            check.dueThrow("sum(" + d + ", 0)", ARGUMENT, () -> desk.sum(d, 0));
            check.dueThrow("sum(" + d + ", 11)", ARGUMENT, () -> desk.sum(d, 11));
            check.dueThrow("sum(" + d + ", -1)", ARGUMENT, () -> desk.sum(d, -1));
            check.dueThrow("sum(" + d + ", 12)", ARGUMENT, () -> desk.sum(d, 12));
        }
    }

    private static void sameWithNothing() {
        check.by("Promise 15: Whether both desks are alike (with nothing made)");
        PortDesk desk = new PortDesk();
        check.due("same() of a new one", desk.same(), true);
        desk.fails(0, 1);
        desk.answer(0, 5);
        check.due("same() behind telling alone", desk.same(), true);
        desk.again(0, 1, 0);
        check.due("same() behind the first refused again", desk.same(), false);
    }

    private static void sameWithAllFull() {
        check.by("Promise 15: Whether both desks are alike: numbers, sums, logs, all that is told and collected (full)");
        PortDesk desk = new PortDesk();
        Check.makeMany(desk, 0, 40);
        for (int i = 0; i < 101; i++) {
            desk.collect(0, 65);
            desk.collect(3, i % 3);
        }
        for (int n = 0; n < 129; n++) {
            desk.call(0, 40, n);
        }
        desk.drop(0, 40);
        check.due("same() with kind, whats and log full", desk.same(), true);
        desk.again(0, 1, 0);
        check.due("same() behind again", desk.same(), false);
    }

    private static void sameButForOneCount() {
        check.by("Promise 15: all that is told");
        // An answer, and a refusal by -1, -2 and -3.
        int[][] calls = {{0, 2, 6}, {12, 2, -1}, {0, 3, -2}, {0, 1, -3}};
        for (int told = 0; told < calls.length; told++) {
            int[] c = calls[told];
            PortDesk desk = new PortDesk();
            Check.makeMany(desk, 0, 2);
            desk.drop(0, 1);
            for (int n = 0; n < 64; n++) {
                desk.call(c[0], c[1], 0);
            }
            check.due("same() with a log full of " + c[2], desk.same(), true);
            // Both logs hold 64 times the same answer: the counts alone differ.
            check.due("again(" + c[0] + ", " + c[1] + ", 0)", desk.again(c[0], c[1], 0), c[2]);
            check.due("same() behind one more " + c[2], desk.same(), false);
            check.due("told(" + told + ")", desk.told(told), 64);
        }
    }

    private static void sameButForOneFailure() {
        check.by("Promise 15: all that is told (failures)");
        PortDesk desk = new PortDesk();
        desk.make(0);
        for (int n = 0; n < 64; n++) {
            desk.fails(0, 1);
            desk.call(0, 1, 0);
        }
        check.due("same() with a log full of failures", desk.same(), true);
        desk.fails(0, 1);
        check.due("same() with one more to come", desk.same(), true);
        check.due("again(0, 1, 0)", desk.again(0, 1, 0), -101);
        check.due("same() behind one more", desk.same(), false);
        check.due("told(4)", desk.told(4), 64);
    }

    private static void sameButForOneSum() {
        check.by("Promise 15: sums");
        for (int part = 0; part < 12; part++) {
            PortDesk desk = withOneOfEachKind();
            desk.again(part, 1, 1);
            check.due("sum(1, " + part + ")", desk.sum(1, part), 1);
            check.due("same()", desk.same(), false);
            desk.call(part, 1, 1);
            check.due("same() behind a call of both", desk.same(), false);
        }
    }
}
