/** Promise 1: nothing made; a second desk alike. */
public final class NewObjectTest {
    private static final Check check = new Check();

    public static void main(String[] args) {
        check.due("NONE", PortDesk.NONE, -1);
        nothingIsMade();
        nothingIsToldOrCollected();
        partsAreNew();
        objectsAreApart();
        check.end();
    }

    private static void nothingIsMade() {
        PortDesk desk = new PortDesk();
        for (int kind = 0; kind < 8; kind++) {
            check.due("numbers(" + kind + ")", desk.numbers(kind), 0);
            check.due("number(" + kind + ", 0)", desk.number(kind, 0), PortDesk.NONE);
            check.due("drop(" + kind + ", 1)", desk.drop(kind, 1), false);
        }
        check.due("same()", desk.same(), true);
    }

    private static void nothingIsToldOrCollected() {
        PortDesk desk = new PortDesk();
        check.dueTold("new", desk, 0, 0, 0, 0, 0, 0, PortDesk.NONE, 0);
        for (int what = 0; what < 4; what++) {
            int w = what;
            check.dueThrow("collected(" + w + ", 0)", IndexOutOfBoundsException.class, () -> desk.collected(w, 0));
        }
        check.dueThrow("log(0, 0)", IndexOutOfBoundsException.class, () -> desk.log(0, 0));
        check.dueThrow("log(1, 0)", IndexOutOfBoundsException.class, () -> desk.log(1, 0));
    }

    private static void partsAreNew() {
        PortDesk desk = new PortDesk();
        for (int kind = 0; kind < 8; kind++) {
            desk.make(kind);
        }
        for (int part = 0; part < 12; part++) {
            check.due("sum(0, " + part + ")", desk.sum(0, part), 0);
            check.due("sum(1, " + part + ")", desk.sum(1, part), 0);
            check.due("call(" + part + ", 1, 0)", desk.call(part, 1, 0), 3);
            check.due("again(" + part + ", 1, 0)", desk.again(part, 1, 0), 3);
        }
    }

    private static void objectsAreApart() {
        PortDesk used = new PortDesk();
        PortDesk other = new PortDesk();
        used.make(0);
        used.collect(2, 9);
        used.answer(0, 50);
        used.call(0, 1, 4);
        check.due("numbers(0) of the other", other.numbers(0), 0);
        check.due("make(0) of the other", other.make(0), 1);
        check.due("collect(2, 7) of the other", other.collect(2, 7), 1);
        check.due("call(0, 1, 1) of the other", other.call(0, 1, 1), 4);
        check.due("told(0) of the other", other.told(0), 1);
        check.due("log(0, 0) of the other", other.log(0, 0), 4);
        check.due("log(0, 0) of the used", used.log(0, 0), 57);
    }
}
