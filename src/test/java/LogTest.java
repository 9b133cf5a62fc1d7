/** Promise 13: log. */
public final class LogTest {
    private static final Check check = new Check();

    public static void main(String[] args) {
        everyAnswerInItsOrder();
        latestSixtyFour();
        secondDesksLogGrowsAlone();
        noSuchEntry();
        othersAreNotLogged();
        check.end();
    }

    private static void everyAnswerInItsOrder() {
        PortDesk desk = new PortDesk();
        Check.makeMany(desk, 0, 2);
        desk.drop(0, 1);
        desk.call(0, 2, 5);
        desk.call(0, 1, 5);
        desk.call(0, 7, 5);
        desk.call(50, 7, 5);
        desk.fails(0, 5);
        desk.call(0, 2, 5);
        long[] want = {11, -3, -2, -1, -105};
        for (int d = 0; d < 2; d++) {
            int at = d;
            for (int i = 0; i < want.length; i++) {
                check.due("log(" + d + ", " + i + ")", desk.log(d, i), want[i]);
            }
            check.dueThrow("log(" + d + ", 5)", IndexOutOfBoundsException.class, () -> desk.log(at, 5));
        }
    }

    private static void latestSixtyFour() {
        for (int calls : new int[] {63, 64, 65, 127, 128, 129, 200}) {
            PortDesk desk = new PortDesk();
            desk.make(0);
            for (int i = 0; i < calls; i++) {
                desk.call(0, 1, 1);
            }
            int kept = Math.min(calls, 64);
            for (int i = 0; i < kept; i++) {
                // The n-th call has answered 3 + n.
                check.due(calls + " calls: log(0, " + i + ")", desk.log(0, i), 3 + calls - kept + i + 1);
                check.due(calls + " calls: log(1, " + i + ")", desk.log(1, i), 3 + calls - kept + i + 1);
            }
            check.dueThrow(calls + " calls: log(0, kept)", IndexOutOfBoundsException.class, () -> desk.log(0, kept));
            check.dueThrow(calls + " calls: log(1, kept)", IndexOutOfBoundsException.class, () -> desk.log(1, kept));
        }
    }

    private static void secondDesksLogGrowsAlone() {
        PortDesk desk = new PortDesk();
        desk.make(0);
        for (int i = 0; i < 64; i++) {
            desk.call(0, 1, 1);
        }
        desk.again(0, 1, 1000);
        check.due("log(0, 0)", desk.log(0, 0), 4);
        check.due("log(0, 63)", desk.log(0, 63), 67);
        check.due("log(1, 0)", desk.log(1, 0), 5);
        check.due("log(1, 62)", desk.log(1, 62), 67);
        check.due("log(1, 63)", desk.log(1, 63), 1067);
    }

    private static void noSuchEntry() {
        PortDesk desk = new PortDesk();
        desk.call(0, 1, 1);
        desk.again(0, 1, 1);
        for (int i : Check.outside(1)) {
            check.dueThrow("log(0, " + i + ")", IndexOutOfBoundsException.class, () -> desk.log(0, i));
        }
        for (int i : Check.outside(2)) {
            check.dueThrow("log(1, " + i + ")", IndexOutOfBoundsException.class, () -> desk.log(1, i));
            check.dueThrow("log(" + i + ", 0)", IndexOutOfBoundsException.class, () -> desk.log(i, 0));
            check.dueThrow("log(" + i + ", -1)", IndexOutOfBoundsException.class, () -> desk.log(i, -1));
        }
    }

    private static void othersAreNotLogged() {
        PortDesk desk = new PortDesk();
        desk.make(0);
        desk.drop(0, 1);
        desk.collect(2, 4);
        desk.answer(0, 4);
        desk.fails(0, 4);
        desk.numbers(0);
        desk.number(0, 0);
        desk.told(0);
        desk.sum(0, 0);
        desk.same();
        check.dueThrow("log(0, 0)", IndexOutOfBoundsException.class, () -> desk.log(0, 0));
        check.dueThrow("log(1, 0)", IndexOutOfBoundsException.class, () -> desk.log(1, 0));
    }
}
