/** Promises 7, 8, 9 and 15: call, again, told, same. */
public final class CallTest {
    private static final Check check = new Check();

    public static void main(String[] args) {
        everyCallWantsItsKind();
        answerOfAPart();
        longsWrapAround();
        noSuchCall();
        numbersThatNeverWere();
        droppedNumbers();
        refusalsChangeNothingElse();
        refusedCallLeavesTheFailure();
        countsThatAreTold();
        latestFailureThatIsTold();
        nothingSuchIsTold();
        againChangesNothingOfThisDesk();
        againTakesTheSecondDesksFailure();
        againRefuses();
        sameUntilAgain();
        notTheSameThoughSumsAndLogsAre();
        check.end();
    }

    private static void everyCallWantsItsKind() {
        for (int kind = 0; kind < 8; kind++) {
            PortDesk desk = new PortDesk();
            desk.make(kind);
            for (int call = 0; call < 12; call++) {
                long want = call % 8 == kind ? 3 : -2;
                check.due("kind " + kind + " alone: call(" + call + ", 1, 0)", desk.call(call, 1, 0), want);
                check.due("kind " + kind + " alone: again(" + call + ", 1, 0)", desk.again(call, 1, 0), want);
            }
        }
    }

    private static void answerOfAPart() {
        PortDesk desk = new PortDesk();
        Check.makeMany(desk, 1, 5);
        desk.answer(9, 1000);
        check.due("call(9, 5, 20)", desk.call(9, 5, 20), 1000 + 15 + 20);
        check.due("call(9, 4, 30)", desk.call(9, 4, 30), 1000 + 12 + 50);
        check.due("call(9, 1, -60)", desk.call(9, 1, -60), 1000 + 3 - 10);
        check.due("call(1, 2, 0): the kind's other part", desk.call(1, 2, 0), 6);
        desk.answer(9, -1);
        check.due("call(9, 1, 10)", desk.call(9, 1, 10), -1 + 3);
    }

    private static void longsWrapAround() {
        PortDesk desk = new PortDesk();
        desk.make(2);
        desk.answer(2, Long.MAX_VALUE);
        check.due("call(2, 1, 0)", desk.call(2, 1, 0), Long.MIN_VALUE + 2);
        check.due("call(2, 1, MAX)", desk.call(2, 1, Long.MAX_VALUE), 1);
        check.due("call(2, 1, MAX)", desk.call(2, 1, Long.MAX_VALUE), Long.MIN_VALUE);
        check.due("sum(0, 2)", desk.sum(0, 2), -2);
        check.due("told(0)", desk.told(0), 3);
    }

    private static void noSuchCall() {
        PortDesk desk = new PortDesk();
        Check.makeMany(desk, 0, 2);
        Check.makeMany(desk, 4, 2);
        desk.drop(4, 1);
        int refused = 0;
        for (int call : Check.outside(12)) {
            for (int number = -1; number <= 3; number++) {
                check.due("call(" + call + ", " + number + ", 1)", desk.call(call, number, 1), -1);
                refused++;
            }
        }
        check.dueTold("no such call", desk, 0, refused, 0, 0, 0, 0, PortDesk.NONE, 0);
    }

    private static void numbersThatNeverWere() {
        PortDesk desk = new PortDesk();
        Check.makeMany(desk, 0, 3);
        int[] numbers = {Integer.MIN_VALUE, -63, -1, 0, 4, 41, 64, 65, 67, Integer.MAX_VALUE};
        for (int number : numbers) {
            check.due("call(8, " + number + ", 1)", desk.call(8, number, 1), -2);
        }
        check.due("call(1, 1, 1): another kind's", desk.call(1, 1, 1), -2);
        check.dueTold("never were", desk, 0, 0, numbers.length + 1, 0, 0, 0, PortDesk.NONE, 0);
    }

    private static void droppedNumbers() {
        PortDesk desk = new PortDesk();
        Check.makeMany(desk, 0, 3);
        desk.drop(0, 2);
        check.due("call(0, 2, 1)", desk.call(0, 2, 1), -3);
        check.due("call(8, 2, 1)", desk.call(8, 2, 1), -3);
        check.due("call(0, 1, 1)", desk.call(0, 1, 1), 4);
        check.due("call(0, 3, 1)", desk.call(0, 3, 1), 11);
        check.dueTold("dropped", desk, 2, 0, 0, 2, 0, 0, PortDesk.NONE, 0);
    }

    private static void refusalsChangeNothingElse() {
        PortDesk desk = new PortDesk();
        Check.makeMany(desk, 0, 2);
        desk.drop(0, 1);
        desk.call(0, 1, 500);
        desk.call(0, 9, 500);
        desk.call(12, 2, 500);
        for (int part = 0; part < 12; part++) {
            check.due("sum(0, " + part + ")", desk.sum(0, part), 0);
            check.due("sum(1, " + part + ")", desk.sum(1, part), 0);
        }
        check.due("numbers(0)", desk.numbers(0), 1);
        check.due("call(0, 2, 1)", desk.call(0, 2, 1), 7);
        check.due("same()", desk.same(), true);
    }

    private static void refusedCallLeavesTheFailure() {
        PortDesk desk = new PortDesk();
        Check.makeMany(desk, 5, 2);
        desk.drop(5, 1);
        desk.fails(5, 2);
        check.due("call(5, 1, 0)", desk.call(5, 1, 0), -3);
        check.due("call(5, 3, 0)", desk.call(5, 3, 0), -2);
        check.due("call(-1, 2, 0)", desk.call(-1, 2, 0), -1);
        check.due("told(4)", desk.told(4), 0);
        check.due("call(5, 2, 0)", desk.call(5, 2, 0), -102);
    }

    private static void countsThatAreTold() {
        PortDesk desk = new PortDesk();
        Check.makeMany(desk, 0, 2);
        desk.drop(0, 2);
        for (int i = 0; i < 5; i++) {
            desk.call(0, 1, 1);
        }
        for (int i = 0; i < 4; i++) {
            desk.call(99, 1, 1);
        }
        for (int i = 0; i < 3; i++) {
            desk.call(0, 3, 1);
        }
        for (int i = 0; i < 2; i++) {
            desk.call(8, 2, 1);
        }
        check.dueTold("without a failure", desk, 5, 4, 3, 2, 0, 0, PortDesk.NONE, 0);
        desk.fails(8, 3);
        desk.call(8, 1, 1);
        check.dueTold("behind a failure", desk, 5, 4, 3, 2, 1, 3, 8, 1);
        desk.call(8, 1, 1);
        check.dueTold("behind an answer more", desk, 6, 4, 3, 2, 1, 3, 8, 1);
    }

    private static void latestFailureThatIsTold() {
        PortDesk desk = new PortDesk();
        Check.makeMany(desk, 3, 40);
        desk.fails(11, 5);
        desk.fails(3, 1);
        check.dueTold("told to throw alone", desk, 0, 0, 0, 0, 0, 0, PortDesk.NONE, 0);
        check.due("call(11, 40, 0)", desk.call(11, 40, 0), -105);
        check.dueTold("the first failure", desk, 0, 0, 0, 0, 1, 5, 11, 40);
        check.due("call(3, 17, 0)", desk.call(3, 17, 0), -101);
        check.dueTold("the second failure", desk, 0, 0, 0, 0, 2, 1, 3, 17);
        desk.drop(3, 17);
        desk.call(3, 17, 0);
        desk.call(3, 18, 0);
        desk.fails(3, 0);
        check.dueTold("it stays the latest", desk, 1, 0, 0, 1, 2, 1, 3, 17);
        desk.make(0);
        desk.fails(0, 2);
        desk.call(0, 1, 0);
        check.dueTold("part 0", desk, 1, 0, 0, 1, 3, 2, 0, 1);
    }

    private static void nothingSuchIsTold() {
        PortDesk desk = new PortDesk();
        for (int which : Check.outside(8)) {
            check.dueThrow("told(" + which + ")", IndexOutOfBoundsException.class, () -> desk.told(which));
        }
    }

    private static void againChangesNothingOfThisDesk() {
        PortDesk desk = new PortDesk();
        Check.makeMany(desk, 0, 2);
        desk.answer(0, 10);
        check.due("call(0, 1, 5)", desk.call(0, 1, 5), 18);
        check.due("again(0, 2, 7)", desk.again(0, 2, 7), 28);
        check.due("again(0, 2, 7)", desk.again(0, 2, 7), 35);
        check.dueTold("behind again", desk, 1, 0, 0, 0, 0, 0, PortDesk.NONE, 0);
        check.due("sum(0, 0)", desk.sum(0, 0), 5);
        check.due("sum(1, 0)", desk.sum(1, 0), 19);
        check.dueThrow("log(0, 1)", IndexOutOfBoundsException.class, () -> desk.log(0, 1));
        check.due("log(1, 2)", desk.log(1, 2), 35);
        check.due("call(0, 1, 1): of this desk", desk.call(0, 1, 1), 10 + 3 + 6);
        check.due("log(1, 3): as the second desk answered", desk.log(1, 3), 10 + 3 + 20);
    }

    private static void againTakesTheSecondDesksFailure() {
        PortDesk desk = new PortDesk();
        desk.make(4);
        desk.call(4, 1, 2);
        desk.fails(4, 3);
        check.due("again(4, 1, 50)", desk.again(4, 1, 50), -103);
        check.due("sum(1, 4)", desk.sum(1, 4), 2);
        check.dueTold("a failure of the second desk", desk, 1, 0, 0, 0, 0, 0, PortDesk.NONE, 0);
        check.due("again(4, 1, 1): it throws no more", desk.again(4, 1, 1), 6);
        check.due("call(4, 1, 7): this desk's part throws still", desk.call(4, 1, 7), -103);
        check.due("log(1, 3): the second desk's part did not", desk.log(1, 3), 13);
        check.due("sum(0, 4)", desk.sum(0, 4), 2);
        check.due("sum(1, 4)", desk.sum(1, 4), 10);
        check.dueTold("a failure of this desk", desk, 1, 0, 0, 0, 1, 3, 4, 1);
    }

    private static void againRefuses() {
        PortDesk desk = new PortDesk();
        Check.makeMany(desk, 0, 2);
        desk.drop(0, 1);
        check.due("again(12, 2, 0)", desk.again(12, 2, 0), -1);
        check.due("again(-1, 2, 0)", desk.again(-1, 2, 0), -1);
        check.due("again(0, 0, 0)", desk.again(0, 0, 0), -2);
        check.due("again(0, 3, 0)", desk.again(0, 3, 0), -2);
        check.due("again(8, 1, 0)", desk.again(8, 1, 0), -3);
        check.dueTold("behind refusals of the second desk", desk, 0, 0, 0, 0, 0, 0, PortDesk.NONE, 0);
        check.due("log(1, 4)", desk.log(1, 4), -3);
    }

    private static void sameUntilAgain() {
        PortDesk desk = new PortDesk();
        desk.collect(3, 0);
        desk.collect(0, 50);
        desk.make(0);
        desk.answer(0, 9);
        check.due("same() behind telling", desk.same(), true);
        desk.drop(0, 1);
        desk.call(0, 1, 1);
        desk.call(0, 2, 1);
        desk.call(0, 3, 1);
        desk.call(12, 1, 1);
        check.due("same() behind calls", desk.same(), true);
        desk.fails(0, 4);
        desk.call(0, 2, 1);
        check.due("same() behind a failure", desk.same(), true);
        for (int i = 0; i < 100; i++) {
            desk.call(0, 2, i);
        }
        check.due("same() behind a full log", desk.same(), true);
        desk.again(0, 2, 0);
        check.due("same() behind again", desk.same(), false);
        desk.call(0, 2, 0);
        check.due("same() behind again and a call", desk.same(), false);
    }

    private static void notTheSameThoughSumsAndLogsAre() {
        PortDesk desk = new PortDesk();
        desk.make(0);
        for (int i = 0; i < 64; i++) {
            desk.call(0, 1, 0);
        }
        check.due("same()", desk.same(), true);
        // The log is full of threes, and its newest is one more: only what is told differs.
        desk.again(0, 1, 0);
        check.due("same() behind again that answers as all before", desk.same(), false);
        PortDesk failing = new PortDesk();
        failing.again(77, 1, 0);
        check.due("same() behind a refused again", failing.same(), false);
    }
}
