import java.util.ArrayList;
import java.util.List;

/**
 * "What throws or is refused changes nothing but what it says": two desks get the same, then one of
 * them a refused call as well, and behind it both must answer alike.
 */
public final class RefusedTest {
    private static final int NONE = PortDesk.NONE;
    private static final int STATES = 3;
    private static final int FULL = 2;
    private static final String ARGUMENT = "throws.IllegalArgumentException";
    private static final String STATE = "throws.IllegalStateException";
    private static final String PLACE = "throws.IndexOutOfBoundsException";
    private static final Check check = new Check();

    private interface Refused {
        long on(PortDesk desk);
    }

    public static void main(String[] args) {
        check.by("What throws or is refused changes nothing but what it says");
        for (int state = 0; state < STATES; state++) {
            refusedWhats(state);
            refusedParts(state);
            refusedKinds(state);
            refusedPlaces(state);
        }
        refusedByAFullDesk();
        check.by("Any other call .. changes nothing but what is TOLD");
        for (int state = 1; state < STATES; state++) {
            refusedCalls(state);
        }
        check.end();
    }

    /** A new desk, a used one, or one whose kinds 0 and 1, turns and log are full. */
    private static PortDesk deskIn(int state) {
        PortDesk desk = new PortDesk();
        if (state == FULL) {
            for (int i = 0; i < 100; i++) {
                desk.collect(3, i % 2);
            }
        }
        if (state > 0) {
            use(desk, state == FULL ? 70 : 5);
        }
        return desk;
    }

    private static void use(PortDesk desk, int calls) {
        for (int kind = 2; kind < 8; kind++) {
            Check.makeMany(desk, kind, 2);
        }
        desk.collect(3, 0);
        desk.collect(3, 0);
        desk.collect(0, 40);
        desk.drop(0, 1);
        desk.answer(0, 1000);
        desk.answer(11, 2000);
        desk.fails(11, 2);
        desk.call(11, 1, 5);
        for (int n = 0; n < calls; n++) {
            desk.call(0, 2, 7);
        }
        desk.fails(0, 3);
        desk.fails(11, 5);
    }

    private static void refusedWhats(int state) {
        String none = "" + NONE;
        for (int what : new int[] {-1, 4}) {
            due(state, "collect(" + what + ", 65)", none, desk -> desk.collect(what, 65));
            due(state, "collect(" + what + ", 5)", none, desk -> desk.collect(what, 5));
            due(state, "collected(" + what + ", 0)", PLACE, desk -> desk.collected(what, 0));
        }
        due(state, "collect(0, 31)", none, desk -> desk.collect(0, 31));
        due(state, "collect(0, 127)", none, desk -> desk.collect(0, 127));
        due(state, "collect(1, -1)", none, desk -> desk.collect(1, -1));
        due(state, "collect(1, 256)", none, desk -> desk.collect(1, 256));
        due(state, "collect(3, -1)", none, desk -> desk.collect(3, -1));
        due(state, "collect(3, 8)", none, desk -> desk.collect(3, 8));
        due(state, "collected(0, -1)", PLACE, desk -> desk.collected(0, -1));
        due(state, "collected(3, 100)", PLACE, desk -> desk.collected(3, 100));
    }

    private static void refusedParts(int state) {
        for (int part : new int[] {-1, 12}) {
            due(state, "answer(" + part + ", 9)", "0", desk -> desk.answer(part, 9) ? 1 : 0);
            due(state, "fails(" + part + ", 0)", "0", desk -> desk.fails(part, 0) ? 1 : 0);
            due(state, "fails(" + part + ", 1)", "0", desk -> desk.fails(part, 1) ? 1 : 0);
            due(state, "sum(0, " + part + ")", ARGUMENT, desk -> desk.sum(0, part));
            due(state, "sum(1, " + part + ")", ARGUMENT, desk -> desk.sum(1, part));
        }
        for (int kind : new int[] {-1, 6}) {
            due(state, "fails(0, " + kind + ")", "0", desk -> desk.fails(0, kind) ? 1 : 0);
            due(state, "fails(11, " + kind + ")", "0", desk -> desk.fails(11, kind) ? 1 : 0);
        }
    }

    private static void refusedKinds(int state) {
        for (int kind : new int[] {-1, 8}) {
            due(state, "make(" + kind + ")", ARGUMENT, desk -> desk.make(kind));
            due(state, "drop(" + kind + ", 2)", "0", desk -> desk.drop(kind, 2) ? 1 : 0);
            due(state, "numbers(" + kind + ")", "" + NONE, desk -> desk.numbers(kind));
            due(state, "number(" + kind + ", 0)", ARGUMENT, desk -> desk.number(kind, 0));
        }
        // Number 1 of kind 0 has been dropped, where it was made at all.
        for (int number : new int[] {Integer.MIN_VALUE, -1, 0, 1, 41, 65, 66}) {
            due(state, "drop(0, " + number + ")", "0", desk -> desk.drop(0, number) ? 1 : 0);
        }
        due(state, "number(0, -1)", "" + NONE, desk -> desk.number(0, -1));
        due(state, "number(0, 40)", "" + NONE, desk -> desk.number(0, 40));
    }

    private static void refusedPlaces(int state) {
        due(state, "told(-1)", PLACE, desk -> desk.told(-1));
        due(state, "told(8)", PLACE, desk -> desk.told(8));
        for (int at : new int[] {-1, 2}) {
            due(state, "log(" + at + ", 0)", PLACE, desk -> desk.log(at, 0));
            due(state, "sum(" + at + ", 0)", ARGUMENT, desk -> desk.sum(at, 0));
        }
        for (int at : new int[] {0, 1}) {
            due(state, "log(" + at + ", -1)", PLACE, desk -> desk.log(at, -1));
            due(state, "log(" + at + ", 64)", PLACE, desk -> desk.log(at, 64));
        }
    }

    private static void refusedByAFullDesk() {
        due(FULL, "make(0)", STATE, desk -> desk.make(0));
        due(FULL, "make(1)", STATE, desk -> desk.make(1));
        // Kind 7 has room, so a turn that came through would be seen there.
        due(FULL, "collect(3, 7)", "" + NONE, desk -> desk.collect(3, 7));
        due(FULL, "collect(3, 0)", "" + NONE, desk -> desk.collect(3, 0));
    }

    private static void due(int state, String call, String want, Refused refused) {
        PortDesk plain = deskIn(state);
        PortDesk asked = deskIn(state);
        String when = call + " in state " + state;
        dueText(when, Probe.answerOf(() -> refused.on(asked)), want);
        dueText(when + ", told", Probe.told(asked), Probe.told(plain));
        check.due(when + ", same()", asked.same(), plain.same());
        dueText(when + ", log of this desk", Probe.log(asked, 0), Probe.log(plain, 0));
        dueText(when + ", log of the second", Probe.log(asked, 1), Probe.log(plain, 1));
        dueText(when + ", the rest", Probe.rest(asked), Probe.rest(plain));
    }

    private static void refusedCalls(int state) {
        int[][] refused = {
            {-1, 2, -1}, {12, 2, -1}, {Integer.MIN_VALUE, 2, -1}, {Integer.MAX_VALUE, 2, -1},
            {0, 0, -2}, {0, -1, -2}, {0, 41, -2}, {8, 66, -2}, {11, 3, -2}, {11, Integer.MIN_VALUE, -2},
            {0, 1, -3}, {8, 1, -3},
        };
        for (int[] r : refused) {
            dueCall(state, r[0], r[1], r[2]);
            dueAgain(state, r[0], r[1], r[2]);
        }
    }

    private static void dueCall(int state, int call, int number, int answer) {
        PortDesk plain = deskIn(state);
        PortDesk asked = deskIn(state);
        String when = "call(" + call + ", " + number + ", 500) in state " + state;
        check.due(when, asked.call(call, number, 500), answer);
        for (int which = 0; which < 8; which++) {
            long more = which == -answer ? 1 : 0;
            check.due(when + ", told(" + which + ")", asked.told(which), plain.told(which) + more);
        }
        check.due(when + ", same()", asked.same(), true);
        dueText(when + ", log of this desk", Probe.log(asked, 0), grown(Probe.log(plain, 0), answer));
        dueText(when + ", log of the second", Probe.log(asked, 1), grown(Probe.log(plain, 1), answer));
        dueText(when + ", the rest", Probe.rest(asked), Probe.rest(plain));
    }

    private static void dueAgain(int state, int call, int number, int answer) {
        PortDesk plain = deskIn(state);
        PortDesk asked = deskIn(state);
        String when = "again(" + call + ", " + number + ", 500) in state " + state;
        check.due(when, asked.again(call, number, 500), answer);
        dueText(when + ", told", Probe.told(asked), Probe.told(plain));
        check.due(when + ", same()", asked.same(), false);
        dueText(when + ", log of this desk", Probe.log(asked, 0), Probe.log(plain, 0));
        dueText(when + ", log of the second", Probe.log(asked, 1), grown(Probe.log(plain, 1), answer));
        dueText(when + ", the rest", Probe.rest(asked), Probe.rest(plain));
    }

    private static List<Long> grown(List<Long> entries, long answer) {
        List<Long> all = new ArrayList<>(entries);
        all.add(answer);
        return all.size() > 64 ? all.subList(1, all.size()) : all;
    }

    private static void dueText(String when, Object got, Object want) {
        if (!got.equals(want)) {
            check.tell(when + " answered " + got + ", due is " + want);
        }
    }
}
