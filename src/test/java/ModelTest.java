import java.util.ArrayList;
import java.util.List;
import java.util.TreeSet;

/**
 * Long mixed runs, held call by call against a model written anew from the document. The calls come
 * from a fixed row of numbers, so every run of this test makes the same ones.
 */
public final class ModelTest {
    private static final Check check = new Check();
    private static final int RUNS = 400;
    /** No object may be asked more; every step makes one call at most. */
    private static final int CALLS = 512;
    private static final long[] VALUES = {
        0, 1, -1, 3, 7, 8, 31, 32, 126, 127, 255, 256, 1L << 32, Long.MAX_VALUE, Long.MIN_VALUE,
    };

    private static long seed = 20261115;

    public static void main(String[] args) {
        for (int run = 0; run < RUNS; run++) {
            oneRun(run);
        }
        check.end();
    }

    private static void oneRun(int run) {
        PortDesk desk = new PortDesk();
        Model model = new Model();
        // Runs differ in how many kinds they use, so that some fill a kind or a what and some do not.
        int spread = 1 + run % 8;
        for (int n = 0; n < CALLS; n++) {
            step("run " + run + ", call " + n + ": ", desk, model, spread, run % 3 != 0);
        }
    }

    private static void step(String at, PortDesk desk, Model model, int spread, boolean mayAskAgain) {
        int face = below(20);
        int place = below(20) == 0 ? below(70) - 30 : below(spread);
        int part = below(20) == 0 ? below(40) - 14 : below(4) == 0 ? below(12) : below(spread);
        int number = below(12) == 0 ? below(90) - 25 : 1 + below(12);
        long value = below(3) == 0 ? VALUES[below(VALUES.length)] : below(200) - 60;
        switch (face) {
            case 0: case 1: {
                int what = place % 5;
                long v = below(2) == 0 ? value : below(8);
                check.due(at + "collect(" + what + ", " + v + ")", desk.collect(what, v), model.collect(what, v));
                break;
            }
            case 2:
                check.due(at + "answer(" + part + ", " + value + ")", desk.answer(part, value), model.answer(part, value));
                break;
            case 3: {
                int kind = below(8) - 1;
                check.due(at + "fails(" + part + ", " + kind + ")", desk.fails(part, kind), model.fails(part, kind));
                break;
            }
            case 4: case 5: case 6:
                same(at + "make(" + place + ")", () -> desk.make(place), () -> model.make(place));
                break;
            case 7:
                check.due(at + "drop(" + place + ", " + number + ")", desk.drop(place, number), model.drop(place, number));
                break;
            case 8: case 9: case 10: case 11:
                check.due(at + "call(" + part + ", " + number + ", " + value + ")",
                    desk.call(part, number, value), model.call(part, number, value));
                break;
            case 12:
                if (mayAskAgain) {
                    check.due(at + "again(" + part + ", " + number + ", " + value + ")",
                        desk.again(part, number, value), model.again(part, number, value));
                }
                break;
            default:
                look(at, face, desk, model, place, part);
                break;
        }
    }

    private static void look(String at, int face, PortDesk desk, Model model, int place, int part) {
        int which = below(10) - 1;
        int i = below(6) == 0 ? below(140) - 20 : below(64);
        int d = below(8) == 0 ? below(5) - 2 : below(2);
        switch (face) {
            case 13:
                same(at + "told(" + which + ")", () -> desk.told(which), () -> model.told(which));
                break;
            case 14:
                check.due(at + "numbers(" + place + ")", desk.numbers(place), model.numbers(place));
                break;
            case 15:
                same(at + "number(" + place + ", " + i % 12 + ")",
                    () -> desk.number(place, i % 12), () -> model.number(place, i % 12));
                break;
            case 16:
                same(at + "collected(" + place % 5 + ", " + i + ")",
                    () -> desk.collected(place % 5, i), () -> model.collected(place % 5, i));
                break;
            case 17:
                same(at + "log(" + d + ", " + i + ")", () -> desk.log(d, i), () -> model.log(d, i));
                break;
            case 18:
                same(at + "sum(" + d + ", " + part + ")", () -> desk.sum(d, part), () -> model.sum(d, part));
                break;
            default:
                check.due(at + "same()", desk.same(), model.same());
                break;
        }
    }

    private static void same(String call, Check.Call got, Check.Call want) {
        long due;
        try {
            due = want.answer();
        } catch (RuntimeException e) {
            check.dueThrow(call, e.getClass(), got);
            return;
        }
        try {
            check.due(call, got.answer(), due);
        } catch (RuntimeException e) {
            check.tell(call + " threw " + e.getClass().getName() + ", due is " + due);
        }
    }

    private static int below(int limit) {
        seed = seed * 6364136223846793005L + 1442695040888963407L;
        return (int) ((seed >>> 33) % limit);
    }

    /** The document once more, by lists and sets, as plainly as it goes. */
    private static final class Model {
        private final Side[] sides = {new Side(), new Side()};
        private boolean askedAlone = false;

        int collect(int what, long v) {
            boolean can = what == 0 ? v > 31 && v < 127
                : what == 1 ? v > -1 && v < 256
                : what == 2 || what == 3 && v > -1 && v < 8;
            if (!can || sides[0].collected.get(what).size() == 100) {
                return -1;
            }
            for (Side side : sides) {
                side.collected.get(what).add(v);
                if (what == 3 && side.made[(int) v] < 40) {
                    side.made[(int) v]++;
                    side.known.get((int) v).add(side.made[(int) v]);
                }
            }
            return sides[0].collected.get(what).size();
        }

        boolean answer(int part, long v) {
            if (part < 0 || part > 11) {
                return false;
            }
            for (Side side : sides) {
                side.answers[part] = v;
            }
            return true;
        }

        boolean fails(int part, int kind) {
            if (part < 0 || part > 11 || kind < 0 || kind > 5) {
                return false;
            }
            for (Side side : sides) {
                side.failures[part] = kind;
            }
            return true;
        }

        int make(int kind) {
            if (kind < 0 || kind > 7) {
                throw new IllegalArgumentException();
            }
            if (sides[0].made[kind] == 40) {
                throw new IllegalStateException();
            }
            for (Side side : sides) {
                side.made[kind]++;
                side.known.get(kind).add(side.made[kind]);
            }
            return sides[0].made[kind];
        }

        boolean drop(int kind, int number) {
            if (kind < 0 || kind > 7) {
                return false;
            }
            sides[1].known.get(kind).remove(number);
            return sides[0].known.get(kind).remove(number);
        }

        long call(int call, int number, long a) {
            sides[1].ask(call, number, a);
            return sides[0].ask(call, number, a);
        }

        long again(int call, int number, long a) {
            askedAlone = true;
            return sides[1].ask(call, number, a);
        }

        long told(int which) {
            if (which < 0 || which > 7) {
                throw new IndexOutOfBoundsException();
            }
            return sides[0].told[which];
        }

        int numbers(int kind) {
            return kind < 0 || kind > 7 ? -1 : sides[0].known.get(kind).size();
        }

        int number(int kind, int i) {
            if (kind < 0 || kind > 7) {
                throw new IllegalArgumentException();
            }
            List<Integer> known = new ArrayList<>(sides[0].known.get(kind));
            return i < 0 || i >= known.size() ? -1 : known.get(i);
        }

        long collected(int what, int i) {
            if (what < 0 || what > 3 || i < 0 || i >= sides[0].collected.get(what).size()) {
                throw new IndexOutOfBoundsException();
            }
            return sides[0].collected.get(what).get(i);
        }

        long log(int desk, int i) {
            if (desk < 0 || desk > 1 || i < 0 || i >= sides[desk].log.size()) {
                throw new IndexOutOfBoundsException();
            }
            return sides[desk].log.get(i);
        }

        long sum(int desk, int part) {
            if (desk < 0 || desk > 1 || part < 0 || part > 11) {
                throw new IllegalArgumentException();
            }
            return sides[desk].sums[part];
        }

        /** Every call asked alone is counted by the second desk, so they are never alike again. */
        boolean same() {
            return !askedAlone;
        }
    }

    private static final class Side {
        final int[] made = new int[8];
        final List<TreeSet<Integer>> known = new ArrayList<>();
        final long[] answers = new long[12];
        final long[] sums = new long[12];
        final int[] failures = new int[12];
        final long[] told = {0, 0, 0, 0, 0, 0, -1, 0};
        final List<List<Long>> collected = new ArrayList<>();
        final List<Long> log = new ArrayList<>();

        Side() {
            for (int kind = 0; kind < 8; kind++) {
                known.add(new TreeSet<>());
            }
            for (int what = 0; what < 4; what++) {
                collected.add(new ArrayList<>());
            }
        }

        long ask(int call, int number, long a) {
            long answer = answerTo(call, number, a);
            log.add(answer);
            if (log.size() > 64) {
                log.remove(0);
            }
            return answer;
        }

        private long answerTo(int call, int number, long a) {
            if (call < 0 || call > 11) {
                told[1]++;
                return -1;
            }
            if (!known.get(call % 8).contains(number)) {
                boolean dropped = number > 0 && number <= made[call % 8];
                told[dropped ? 3 : 2]++;
                return dropped ? -3 : -2;
            }
            int failure = failures[call];
            if (failure > 0) {
                failures[call] = 0;
                told[4]++;
                told[5] = failure;
                told[6] = call;
                told[7] = number;
                return -100 - failure;
            }
            told[0]++;
            sums[call] += a;
            return answers[call] + 3L * number + sums[call];
        }
    }
}
