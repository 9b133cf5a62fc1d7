/** Promises 3, 4 and 14: answer, fails, sum. */
public final class PartsTest {
    private static final Check check = new Check();

    public static void main(String[] args) {
        answersOfEachPart();
        noSuchPart();
        everyFailureOfEveryPart();
        noSuchFailureKind();
        tellingToThrowNoMore();
        tellingAnotherFailure();
        failureOfOnePartAlone();
        failureGivesTheSumBack();
        sumsOfBothDesks();
        noSuchSum();
        check.end();
    }

    private static PortDesk withOneOfEachKind() {
        PortDesk desk = new PortDesk();
        for (int kind = 0; kind < 8; kind++) {
            desk.make(kind);
        }
        return desk;
    }

    private static void answersOfEachPart() {
        PortDesk desk = withOneOfEachKind();
        for (int part = 0; part < 12; part++) {
            check.due("answer(" + part + ", ..)", desk.answer(part, 1000 * part), true);
        }
        for (int part = 0; part < 12; part++) {
            check.due("call(" + part + ", 1, 1)", desk.call(part, 1, 1), 1000 * part + 3 + 1);
            check.due("again(" + part + ", 1, 1)", desk.again(part, 1, 1), 1000 * part + 3 + 2);
        }
        desk.answer(3, Long.MIN_VALUE);
        check.due("call(3, 1, -5)", desk.call(3, 1, -5), Long.MIN_VALUE + 3 - 4);
        desk.answer(3, Long.MAX_VALUE);
        check.due("call(3, 1, 0)", desk.call(3, 1, 0), Long.MAX_VALUE + 3 - 4);
    }

    private static void noSuchPart() {
        PortDesk desk = withOneOfEachKind();
        for (int part : Check.outside(12)) {
            check.due("answer(" + part + ", 5)", desk.answer(part, 5), false);
            check.due("fails(" + part + ", 1)", desk.fails(part, 1), false);
            check.due("fails(" + part + ", 0)", desk.fails(part, 0), false);
        }
        for (int part = 0; part < 12; part++) {
            check.due("call(" + part + ", 1, 0) behind refusals", desk.call(part, 1, 0), 3);
        }
    }

    private static void everyFailureOfEveryPart() {
        PortDesk desk = withOneOfEachKind();
        int caught = 0;
        for (int part = 0; part < 12; part++) {
            for (int kind = 1; kind <= 5; kind++) {
                String told = "part " + part + " failing by " + kind;
                check.due(told + ": fails", desk.fails(part, kind), true);
                check.due(told + ": call", desk.call(part, 1, 9), -100 - kind);
                caught++;
                check.due(told + ": told(4)", desk.told(4), caught);
                check.due(told + ": told(6)", desk.told(6), part);
            }
            check.due("part " + part + " throws no more", desk.call(part, 1, 2), 5);
        }
        check.due("same()", desk.same(), true);
    }

    private static void noSuchFailureKind() {
        PortDesk desk = withOneOfEachKind();
        for (int kind : Check.outside(6)) {
            check.due("fails(2, " + kind + ")", desk.fails(2, kind), false);
        }
        check.due("call(2, 1, 0) behind refusals", desk.call(2, 1, 0), 3);
        desk.fails(2, 3);
        check.due("fails(2, 6)", desk.fails(2, 6), false);
        check.due("fails(2, -1)", desk.fails(2, -1), false);
        check.due("call(2, 1, 0): the failure told before stands", desk.call(2, 1, 0), -103);
    }

    private static void tellingToThrowNoMore() {
        PortDesk desk = withOneOfEachKind();
        desk.fails(7, 5);
        check.due("fails(7, 0)", desk.fails(7, 0), true);
        check.due("call(7, 1, 6)", desk.call(7, 1, 6), 9);
        check.due("again(7, 1, 0)", desk.again(7, 1, 0), 9);
        check.due("fails(7, 0) of one that throws not", desk.fails(7, 0), true);
        check.due("told(4)", desk.told(4), 0);
    }

    private static void tellingAnotherFailure() {
        PortDesk desk = withOneOfEachKind();
        desk.fails(1, 2);
        desk.fails(1, 4);
        check.due("call(1, 1, 0): the failure told last", desk.call(1, 1, 0), -104);
        check.due("call(1, 1, 0)", desk.call(1, 1, 0), 3);
    }

    private static void failureOfOnePartAlone() {
        PortDesk desk = withOneOfEachKind();
        desk.fails(8, 1);
        check.due("call(0, 1, 0): the same kind, another part", desk.call(0, 1, 0), 3);
        desk.fails(9, 2);
        check.due("call(9, 1, 0)", desk.call(9, 1, 0), -102);
        check.due("call(8, 1, 0)", desk.call(8, 1, 0), -101);
    }

    private static void failureGivesTheSumBack() {
        PortDesk desk = withOneOfEachKind();
        desk.call(4, 1, 70);
        desk.fails(4, 4);
        desk.call(4, 1, Long.MAX_VALUE);
        check.due("sum(0, 4) behind a failure", desk.sum(0, 4), 70);
        check.due("sum(1, 4) behind a failure", desk.sum(1, 4), 70);
        check.due("call(4, 1, 1) behind a failure", desk.call(4, 1, 1), 74);
    }

    private static void sumsOfBothDesks() {
        PortDesk desk = withOneOfEachKind();
        for (int part = 0; part < 12; part++) {
            desk.call(part, 1, part + 1);
            desk.again(part, 1, 100);
        }
        for (int part = 0; part < 12; part++) {
            check.due("sum(0, " + part + ")", desk.sum(0, part), part + 1);
            check.due("sum(1, " + part + ")", desk.sum(1, part), part + 101);
        }
        desk.call(0, 1, Long.MAX_VALUE);
        check.due("sum(0, 0) wraps around", desk.sum(0, 0), Long.MIN_VALUE);
    }

    private static void noSuchSum() {
        PortDesk desk = new PortDesk();
        for (int place : Check.outside(12)) {
            check.dueThrow("sum(0, " + place + ")", IllegalArgumentException.class, () -> desk.sum(0, place));
            check.dueThrow("sum(1, " + place + ")", IllegalArgumentException.class, () -> desk.sum(1, place));
        }
        for (int place : Check.outside(2)) {
            check.dueThrow("sum(" + place + ", 0)", IllegalArgumentException.class, () -> desk.sum(place, 0));
            check.dueThrow("sum(" + place + ", -1)", IllegalArgumentException.class, () -> desk.sum(place, -1));
        }
    }
}
