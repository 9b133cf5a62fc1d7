/** Promises 5, 6, 10 and 11: make, drop, numbers, number. */
public final class NumbersTest {
    private static final Check check = new Check();

    public static void main(String[] args) {
        numbersInTheOrderOfMaking();
        fortyOfAKind();
        droppedNumbersComeNeverAgain();
        dropsThatAreRefused();
        droppedOnesCountAmongTheForty();
        knownNumbersAscending();
        noSuchKind();
        secondDeskHasTheSameNumbers();
        check.end();
    }

    private static void numbersInTheOrderOfMaking() {
        PortDesk desk = new PortDesk();
        for (int number = 1; number <= 3; number++) {
            for (int kind = 0; kind < 8; kind++) {
                check.due("make(" + kind + ")", desk.make(kind), number);
                check.due("numbers(" + kind + ")", desk.numbers(kind), number);
                check.due("number(" + kind + ", last)", desk.number(kind, number - 1), number);
            }
        }
        check.due("same()", desk.same(), true);
    }

    private static void fortyOfAKind() {
        PortDesk desk = new PortDesk();
        for (int kind = 0; kind < 8; kind++) {
            int k = kind;
            for (int number = 1; number <= 40; number++) {
                check.due("make(" + k + ")", desk.make(k), number);
            }
            check.dueThrow("make(" + k + ") behind 40", IllegalStateException.class, () -> desk.make(k));
            check.due("numbers(" + k + ")", desk.numbers(k), 40);
            check.due("number(" + k + ", 39)", desk.number(k, 39), 40);
            check.due("number(" + k + ", 40)", desk.number(k, 40), PortDesk.NONE);
            check.due("call(" + k + ", 40, 0)", desk.call(k, 40, 0), 120);
            check.due("call(" + k + ", 41, 0)", desk.call(k, 41, 0), -2);
        }
        check.due("same()", desk.same(), true);
    }

    private static void droppedNumbersComeNeverAgain() {
        PortDesk desk = new PortDesk();
        Check.makeMany(desk, 3, 2);
        check.due("drop(3, 2)", desk.drop(3, 2), true);
        check.due("make(3) behind a drop of the last", desk.make(3), 3);
        check.due("drop(3, 1)", desk.drop(3, 1), true);
        check.due("drop(3, 3)", desk.drop(3, 3), true);
        check.due("numbers(3)", desk.numbers(3), 0);
        check.due("make(3) behind drops of all", desk.make(3), 4);
        check.due("numbers(3)", desk.numbers(3), 1);
        check.due("call(3, 1, 0)", desk.call(3, 1, 0), -3);
        check.due("call(11, 3, 0)", desk.call(11, 3, 0), -3);
        check.due("call(11, 4, 0)", desk.call(11, 4, 0), 12);
    }

    private static void dropsThatAreRefused() {
        PortDesk desk = new PortDesk();
        Check.makeMany(desk, 2, 3);
        for (int number : new int[] {Integer.MIN_VALUE, -63, -62, -1, 0, 4, 64, 65, 66, Integer.MAX_VALUE}) {
            check.due("drop(2, " + number + ")", desk.drop(2, number), false);
        }
        check.due("drop(1, 1): another kind's", desk.drop(1, 1), false);
        check.due("numbers(2)", desk.numbers(2), 3);
        check.due("drop(2, 3)", desk.drop(2, 3), true);
        check.due("drop(2, 3) twice", desk.drop(2, 3), false);
        check.due("numbers(2)", desk.numbers(2), 2);
        for (int kind : Check.outside(8)) {
            check.due("drop(" + kind + ", 1)", desk.drop(kind, 1), false);
        }
        check.due("numbers(2)", desk.numbers(2), 2);
        check.dueTold("behind drops", desk, 0, 0, 0, 0, 0, 0, PortDesk.NONE, 0);
    }

    private static void droppedOnesCountAmongTheForty() {
        PortDesk desk = new PortDesk();
        Check.makeMany(desk, 0, 20);
        desk.drop(0, 7);
        desk.drop(0, 20);
        Check.makeMany(desk, 0, 19);
        check.due("make(0): the 40th", desk.make(0), 40);
        check.dueThrow("make(0) behind 40 and two drops", IllegalStateException.class, () -> desk.make(0));
        desk.drop(0, 40);
        check.dueThrow("make(0) behind a third drop", IllegalStateException.class, () -> desk.make(0));
        check.due("numbers(0)", desk.numbers(0), 37);
        check.due("number(0, 36)", desk.number(0, 36), 39);
    }

    private static void knownNumbersAscending() {
        PortDesk desk = new PortDesk();
        Check.makeMany(desk, 7, 40);
        for (int number = 1; number <= 40; number += 3) {
            desk.drop(7, number);
        }
        int i = 0;
        for (int number = 1; number <= 40; number++) {
            if (number % 3 != 1) {
                check.due("number(7, " + i + ")", desk.number(7, i), number);
                i++;
            }
        }
        check.due("numbers(7)", desk.numbers(7), i);
        for (int place : Check.outside(i)) {
            check.due("number(7, " + place + ")", desk.number(7, place), PortDesk.NONE);
        }
    }

    private static void noSuchKind() {
        PortDesk desk = new PortDesk();
        Check.makeMany(desk, 0, 40);
        for (int kind : Check.outside(8)) {
            check.dueThrow("make(" + kind + ")", IllegalArgumentException.class, () -> desk.make(kind));
            check.due("numbers(" + kind + ")", desk.numbers(kind), PortDesk.NONE);
            check.dueThrow("number(" + kind + ", 0)", IllegalArgumentException.class, () -> desk.number(kind, 0));
            check.dueThrow("number(" + kind + ", -1)", IllegalArgumentException.class, () -> desk.number(kind, -1));
        }
        check.due("same()", desk.same(), true);
    }

    private static void secondDeskHasTheSameNumbers() {
        PortDesk desk = new PortDesk();
        Check.makeMany(desk, 6, 3);
        desk.drop(6, 2);
        check.due("same()", desk.same(), true);
        check.due("again(6, 1, 0)", desk.again(6, 1, 0), 3);
        check.due("again(6, 2, 0)", desk.again(6, 2, 0), -3);
        check.due("again(6, 3, 0)", desk.again(6, 3, 0), 9);
        check.due("again(6, 4, 0)", desk.again(6, 4, 0), -2);
    }
}
