/**
 * The face over the parts of a harbour. All that this desk is told is told to a second desk too,
 * so that both answer alike until the second one is asked alone.
 *
 * <p>The face tests every argument; the classes inside take only what it has let through.
 */
public final class PortDesk {
    public static final int NONE = -1;

    private static final int KINDS = 8;
    private static final int PARTS = 12;
    private static final int FAILURE_KINDS = 5;
    private static final int WHATS = 4;
    private static final int FACTS = 8;

    private final Desk first;
    private final Desk second;

    public PortDesk() {
        first = new Desk();
        second = new Desk();
    }

    public int collect(int what, long v) {
        if (!CollectedValues.canHold(what, v)) {
            return NONE;
        }
        second.take(what, v);
        return first.take(what, v);
    }

    public boolean answer(int part, long v) {
        if (!isPart(part)) {
            return false;
        }
        first.parts.setAnswer(part, v);
        second.parts.setAnswer(part, v);
        return true;
    }

    public boolean fails(int part, int kind) {
        if (!isPart(part) || kind < 0 || kind > FAILURE_KINDS) {
            return false;
        }
        first.parts.setFailure(part, kind);
        second.parts.setFailure(part, kind);
        return true;
    }

    public int make(int kind) throws IllegalArgumentException, IllegalStateException {
        if (!isKind(kind)) {
            throw new IllegalArgumentException("no such kind");
        }
        if (first.numbers.isFull(kind)) {
            throw new IllegalStateException("all numbers of this kind are made");
        }
        second.numbers.makeNext(kind);
        return first.numbers.makeNext(kind);
    }

    public boolean drop(int kind, int number) {
        if (!isKind(kind) || !first.numbers.isKnown(kind, number)) {
            return false;
        }
        first.numbers.forget(kind, number);
        second.numbers.forget(kind, number);
        return true;
    }

    public long call(int call, int number, long a) {
        second.ask(call, number, a);
        return first.ask(call, number, a);
    }

    public long again(int call, int number, long a) {
        return second.ask(call, number, a);
    }

    public long told(int which) throws IndexOutOfBoundsException {
        if (which < 0 || which >= FACTS) {
            throw new IndexOutOfBoundsException("nothing such is told");
        }
        return first.tally.fact(which);
    }

    public int numbers(int kind) {
        return isKind(kind) ? first.numbers.countKnown(kind) : NONE;
    }

    public int number(int kind, int i) throws IllegalArgumentException {
        if (!isKind(kind)) {
            throw new IllegalArgumentException("no such kind");
        }
        return first.numbers.knownAt(kind, i);
    }

    public long collected(int what, int i) throws IndexOutOfBoundsException {
        if (what < 0 || what >= WHATS || i < 0 || i >= first.collection.size(what)) {
            throw new IndexOutOfBoundsException("none such is collected");
        }
        return first.collection.valueAt(what, i);
    }

    public long log(int desk, int i) throws IndexOutOfBoundsException {
        if (!isDesk(desk) || i < 0 || i >= deskAt(desk).journal.size()) {
            throw new IndexOutOfBoundsException("no such entry is kept");
        }
        return deskAt(desk).journal.entryAt(i);
    }

    public long sum(int desk, int part) throws IllegalArgumentException {
        if (!isDesk(desk) || !isPart(part)) {
            throw new IllegalArgumentException("no such desk or part");
        }
        return deskAt(desk).parts.sumOf(part);
    }

    public boolean same() {
        return first.isLike(second);
    }

    private Desk deskAt(int desk) {
        return desk == 0 ? first : second;
    }

    private static boolean isDesk(int desk) {
        return desk == 0 || desk == 1;
    }

    private static boolean isKind(int kind) {
        return kind >= 0 && kind < KINDS;
    }

    private static boolean isPart(int part) {
        return part >= 0 && part < PARTS;
    }

    /** One desk whole: this one and the second one differ in nothing but what they are asked. */
    private static final class Desk {
        private static final int NO_SUCH_CALL = 1;
        private static final int NEVER_MADE = 2;
        private static final int DROPPED = 3;

        final Numbers numbers = new Numbers();
        final Parts parts = new Parts();
        final Tally tally = new Tally();
        final CollectedValues collection = new CollectedValues();
        final Journal journal = new Journal();

        int take(int what, long value) {
            if (collection.isFull(what)) {
                return NONE;
            }
            // A turn is a kind: canHold has let through nothing else.
            if (what == CollectedValues.TURNS && !numbers.isFull((int) value)) {
                numbers.makeNext((int) value);
            }
            return collection.add(what, value);
        }

        long ask(int call, int number, long value) {
            long answer = answerOrRefuse(call, number, value);
            journal.write(answer);
            return answer;
        }

        private long answerOrRefuse(int call, int number, long value) {
            // Call c goes to part c, so there are as many calls as parts.
            if (!isPart(call)) {
                return refuse(NO_SUCH_CALL);
            }
            int kind = call % KINDS;
            if (!numbers.wasMade(kind, number)) {
                return refuse(NEVER_MADE);
            }
            if (!numbers.isKnown(kind, number)) {
                return refuse(DROPPED);
            }
            return askPart(call, number, value);
        }

        private long refuse(int reason) {
            tally.countRefused(reason);
            return -reason;
        }

        private long askPart(int part, int number, long value) {
            long oldSum = parts.sumOf(part);
            long answer = 0;
            int failure = 0;
            try {
                answer = parts.answerTo(part, number, value);
            } catch (IllegalStateException e) {
                failure = Parts.STATE;
            } catch (IllegalArgumentException e) {
                failure = Parts.ARGUMENT;
            } catch (IndexOutOfBoundsException e) {
                failure = Parts.PLACE;
            } catch (ArithmeticException e) {
                failure = Parts.DIVISION;
            } catch (UnsupportedOperationException e) {
                failure = Parts.OWN;
            }
            if (failure != 0) {
                parts.restoreSum(part, oldSum);
                tally.countFailure(failure, part, number);
                return -100 - failure;
            }
            tally.countAnswered();
            return answer;
        }

        boolean isLike(Desk other) {
            return numbers.isLike(other.numbers)
                && parts.hasSumsOf(other.parts)
                && journal.isLike(other.journal)
                && tally.isLike(other.tally)
                && collection.isLike(other.collection);
        }
    }

    /** The numbers of all kinds: those ever made are 1 .. made[kind], in the order of making. */
    private static final class Numbers {
        private static final int MOST = 40;

        private final int[] made = new int[KINDS];
        // Bit n - 1 stands for number n: the 40 of a kind fit into one long.
        private final long[] known = new long[KINDS];

        boolean isFull(int kind) {
            return made[kind] >= MOST;
        }

        int makeNext(int kind) {
            made[kind]++;
            known[kind] |= bitOf(made[kind]);
            return made[kind];
        }

        void forget(int kind, int number) {
            known[kind] &= ~bitOf(number);
        }

        boolean wasMade(int kind, int number) {
            return number >= 1 && number <= made[kind];
        }

        boolean isKnown(int kind, int number) {
            // A shift wraps around, so a number that never was could meet another one's bit.
            return wasMade(kind, number) && (known[kind] & bitOf(number)) != 0;
        }

        int countKnown(int kind) {
            return Long.bitCount(known[kind]);
        }

        int knownAt(int kind, int i) {
            int before = 0;
            for (int number = 1; number <= made[kind]; number++) {
                if (isKnown(kind, number)) {
                    if (before == i) {
                        return number;
                    }
                    before++;
                }
            }
            return NONE;
        }

        boolean isLike(Numbers other) {
            for (int kind = 0; kind < KINDS; kind++) {
                if (made[kind] != other.made[kind] || known[kind] != other.known[kind]) {
                    return false;
                }
            }
            return true;
        }

        private static long bitOf(int number) {
            return 1L << (number - 1);
        }
    }

    /** The parts behind one desk. */
    private static final class Parts {
        static final int STATE = 1;
        static final int ARGUMENT = 2;
        static final int PLACE = 3;
        static final int DIVISION = 4;
        static final int OWN = 5;

        private final long[] answers = new long[PARTS];
        private final long[] sums = new long[PARTS];
        private final int[] failures = new int[PARTS];

        void setAnswer(int part, long value) {
            answers[part] = value;
        }

        void setFailure(int part, int kind) {
            failures[part] = kind;
        }

        long sumOf(int part) {
            return sums[part];
        }

        void restoreSum(int part, long oldSum) {
            sums[part] = oldSum;
        }

        /** Throws in the place of answering if the part is told to; its sum has grown by then. */
        long answerTo(int part, int number, long value) {
            sums[part] += value;
            throwIfTold(part);
            return answers[part] + 3L * number + sums[part];
        }

        private void throwIfTold(int part) {
            int kind = failures[part];
            // A part that is told to throw throws once.
            failures[part] = 0;
            switch (kind) {
                case STATE:
                    throw new IllegalStateException("the part's state");
                case ARGUMENT:
                    throw new IllegalArgumentException("the part's argument");
                case PLACE:
                    throw new IndexOutOfBoundsException("the part's place");
                case DIVISION:
                    throw new ArithmeticException("the part's division by 0");
                case OWN:
                    // No other failure of a part is of this class, so it can stand for its own.
                    throw new UnsupportedOperationException("the part's own failure");
                default:
                    break;
            }
        }

        boolean hasSumsOf(Parts other) {
            for (int part = 0; part < PARTS; part++) {
                if (sums[part] != other.sums[part]) {
                    return false;
                }
            }
            return true;
        }
    }

    /** What is told of the calls: the counts 0 .. 4, and the latest failure. */
    private static final class Tally {
        private static final int ANSWERED = 0;
        private static final int FAILURES = 4;
        private static final int FAILURE_KIND = 5;
        private static final int FAILURE_PART = 6;
        private static final int FAILURE_NUMBER = 7;

        private final long[] facts = new long[FACTS];

        Tally() {
            facts[FAILURE_PART] = NONE;
        }

        void countAnswered() {
            facts[ANSWERED]++;
        }

        /** The reasons 1 .. 3 are counted at their own places. */
        void countRefused(int reason) {
            facts[reason]++;
        }

        void countFailure(int kind, int part, int number) {
            facts[FAILURES]++;
            facts[FAILURE_KIND] = kind;
            facts[FAILURE_PART] = part;
            facts[FAILURE_NUMBER] = number;
        }

        long fact(int which) {
            return facts[which];
        }

        boolean isLike(Tally other) {
            for (int which = 0; which < FACTS; which++) {
                if (facts[which] != other.facts[which]) {
                    return false;
                }
            }
            return true;
        }
    }

    /** The values collected, by what. */
    private static final class CollectedValues {
        private static final int SIGNS = 0;
        private static final int BYTES = 1;
        private static final int ROWS = 2;
        static final int TURNS = 3;
        private static final int MOST = 100;

        private final int[] sizes = new int[WHATS];
        private final long[][] values = new long[WHATS][MOST];

        /** Whether there is such a what, and the value can be one of it. */
        static boolean canHold(int what, long value) {
            switch (what) {
                case SIGNS:
                    return value >= 32 && value <= 126;
                case BYTES:
                    return value >= 0 && value <= 255;
                case ROWS:
                    return true;
                case TURNS:
                    return value >= 0 && value < KINDS;
                default:
                    return false;
            }
        }

        boolean isFull(int what) {
            return sizes[what] >= MOST;
        }

        int add(int what, long value) {
            values[what][sizes[what]] = value;
            sizes[what]++;
            return sizes[what];
        }

        int size(int what) {
            return sizes[what];
        }

        long valueAt(int what, int i) {
            return values[what][i];
        }

        boolean isLike(CollectedValues other) {
            for (int what = 0; what < WHATS; what++) {
                if (sizes[what] != other.sizes[what]) {
                    return false;
                }
                for (int i = 0; i < sizes[what]; i++) {
                    if (values[what][i] != other.values[what][i]) {
                        return false;
                    }
                }
            }
            return true;
        }
    }

    /** The log: a ring, so that the oldest answer gives its place to the newest. */
    private static final class Journal {
        private static final int MOST = 64;

        private final long[] ring = new long[MOST];
        private int size = 0;
        private int next = 0;

        void write(long answer) {
            ring[next] = answer;
            next = (next + 1) % MOST;
            if (size < MOST) {
                size++;
            }
        }

        int size() {
            return size;
        }

        long entryAt(int i) {
            return ring[(next + MOST - size + i) % MOST];
        }

        boolean isLike(Journal other) {
            if (size != other.size) {
                return false;
            }
            for (int i = 0; i < size; i++) {
                if (entryAt(i) != other.entryAt(i)) {
                    return false;
                }
            }
            return true;
        }
    }
}
