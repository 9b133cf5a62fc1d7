import java.util.ArrayList;
import java.util.List;

/** All that can be seen of a desk, or brought out of it by calls, as rows of text. */
final class Probe {
    private Probe() {
    }

    static List<String> told(PortDesk desk) {
        List<String> rows = new ArrayList<>();
        for (int which = 0; which < 8; which++) {
            rows.add("told(" + which + ") = " + desk.told(which));
        }
        return rows;
    }

    static List<Long> log(PortDesk desk, int at) {
        List<Long> entries = new ArrayList<>();
        for (int i = 0; i < 64; i++) {
            try {
                entries.add(desk.log(at, i));
            } catch (IndexOutOfBoundsException e) {
                break;
            }
        }
        return entries;
    }

    /** Sums and numbers, and then what further calls answer: these change the desk. */
    static List<String> rest(PortDesk desk) {
        List<String> rows = new ArrayList<>();
        for (int part = 0; part < 12; part++) {
            rows.add("sum(0, " + part + ") = " + desk.sum(0, part));
            rows.add("sum(1, " + part + ") = " + desk.sum(1, part));
        }
        for (int kind = 0; kind < 8; kind++) {
            int many = desk.numbers(kind);
            rows.add("numbers(" + kind + ") = " + many);
            rows.add("number(" + kind + ", first) = " + desk.number(kind, 0));
            rows.add("number(" + kind + ", last) = " + desk.number(kind, many - 1));
        }
        probeParts(desk, rows);
        for (int kind = 0; kind < 8; kind++) {
            int k = kind;
            rows.add("make(" + k + ") = " + answerOf(() -> desk.make(k)));
        }
        for (int what = 0; what < 4; what++) {
            rows.add("collect(" + what + ", ..) = " + desk.collect(what, what == 0 ? 65 : 5));
            int w = what;
            rows.add("collected(" + w + ", 0) = " + answerOf(() -> desk.collected(w, 0)));
        }
        return rows;
    }

    /** The second number, as the first one may have been dropped. */
    private static void probeParts(PortDesk desk, List<String> rows) {
        for (int part = 0; part < 12; part++) {
            rows.add("call(" + part + ", 2, 1) = " + desk.call(part, 2, 1));
            rows.add("again(" + part + ", 2, 1) = " + desk.again(part, 2, 1));
            rows.add("call(" + part + ", 1, 1) = " + desk.call(part, 1, 1));
        }
    }

    static String answerOf(Check.Call call) {
        try {
            return "" + call.answer();
        } catch (RuntimeException e) {
            return "throws." + e.getClass().getSimpleName();
        }
    }
}
