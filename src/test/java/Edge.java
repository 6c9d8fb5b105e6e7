import java.util.NoSuchElementException;

/**
 * What the tests of edges have in common. Each call is tried on a survey of its own, made for it,
 * so that what went before it is seen at once and no object comes near its 512th call.
 */
final class Edge {
    static final Class<UnsupportedOperationException> REFUSED = UnsupportedOperationException.class;
    static final Class<IndexOutOfBoundsException> NO_INDEX = IndexOutOfBoundsException.class;
    static final Class<IllegalArgumentException> BAD = IllegalArgumentException.class;
    static final Class<IllegalStateException> BAD_STATE = IllegalStateException.class;
    static final Class<NoSuchElementException> NONE = NoSuchElementException.class;
    static final Class<ArithmeticException> NO_NUMBER = ArithmeticException.class;

    /** The least and the greatest numbers, and some that come back into range when multiplied or cut short. */
    private static final int[] FAR_OFF = {
        Integer.MIN_VALUE, Integer.MIN_VALUE + 1, -715827882, -65536, -256, -100, 64, 100, 256, 65536, 1 << 29,
        715827883, 1431655766, Integer.MAX_VALUE - 1, Integer.MAX_VALUE,
    };

    interface Made {
        CanalMaps get();
    }

    interface Call {
        Object on(CanalMaps x);
    }

    private Edge() {
    }

    /** Numbers that are not from the least to the most: the next two on either side, and some far off. */
    static int[] outside(int least, int most) {
        int[] numbers = new int[FAR_OFF.length + 4];
        int count = 0;
        for (int number : new int[] {least - 2, least - 1, most + 1, most + 2}) {
            numbers[count++] = number;
        }
        for (int number : FAR_OFF) {
            if (number < least || number > most) {
                numbers[count++] = number;
            }
        }
        return java.util.Arrays.copyOf(numbers, count);
    }

    static void is(Object due, Made made, Call call) {
        Check.is(due, call.on(made.get()));
    }

    /** The call throws just this, and leaves all as it was, the reason too. */
    static void isThrown(Class<? extends RuntimeException> due, Made made, Call call) {
        CanalMaps x = made.get();
        CanalMaps before = made.get();
        Check.isThrown(due, () -> call.on(x));
        Check.is(Surveys.keptReason(before), Surveys.keptReason(x));
        isUnchanged(before, x);
    }

    /** The call is refused for this reason, and leaves all else as it was. */
    static void isRefused(String reason, Made made, Call call) {
        CanalMaps x = made.get();
        Check.isThrown(REFUSED, () -> call.on(x));
        Check.is(reason, Surveys.keptReason(x));
        isUnchanged(made.get(), x);
    }

    private static void isUnchanged(CanalMaps before, CanalMaps x) {
        Check.is(Surveys.written(before), Surveys.written(x));
        Check.is(before.faultPosition(), x.faultPosition());
        Check.is(before.account(9), x.account(9));
        Check.is(before.account(10), x.account(10));
        Check.is(Surveys.state(before), Surveys.state(x));
    }

    /** Nothing is thrown, and the call counts among what can be undone. */
    static void isChange(Object due, Made made, Call call) {
        CanalMaps x = made.get();
        CanalMaps before = made.get();
        Check.is(due, call.on(x));
        Check.is(Math.min(before.account(9) + 1, 8), x.account(9));
        x.undo();
        Check.is(Surveys.state(before), Surveys.state(x));
    }
}
