/**
 * No call throws anything but sign's IllegalStateException, for any arguments in any state: this binds
 * calls behind the 512th too, whose answers are free.
 */
final class AnyArgumentsTest {
    private static final int[] INTS = {
        Integer.MIN_VALUE, Integer.MIN_VALUE + 31, -33, -32, -2, -1, 0, 1, 2, 9, 10, 15, 16, 23, 24, 31, 32, 33,
        100, 199, 200, 231, 232, 255, 256, 399, 400, 999, 1000, Integer.MAX_VALUE - 1, Integer.MAX_VALUE
    };
    private static final long[] LONGS = {
        Long.MIN_VALUE, -1, 0, 1, 1L << 32, Run.LAST, Run.LAST + 1, Long.MAX_VALUE
    };

    public static void main(String[] args) {
        Answers answers = new Answers("any arguments");
        answers.due("an empty object", throwsNothing(new SignRows()), true);
        answers.due("a small object", throwsNothing(withSigners(3)), true);
        answers.due("an object that is full", throwsNothing(filled()), true);
        answers.close();
    }

    /** Thing 0 of person 0, and persons 1 .. count - 1 who hold every role for ever. */
    private static SignRows withSigners(int count) {
        SignRows rows = new SignRows();
        for (int p = 0; p < count; p++) {
            rows.person();
            for (int r = 0; p > 0 && r < 10; r++) {
                rows.role(p, r, 0, Run.LAST);
            }
        }
        rows.thing(0);
        return rows;
    }

    private static SignRows filled() {
        SignRows rows = withSigners(6);
        for (int i = 0; i < 1100; i++) {
            rows.person();
            rows.thing(i % 24);
            rows.role(i % 24, i % 10, 0, Run.LAST);
            for (int t = 0; t < 16; t++) {
                rows.byteOf(t, i % 256);
                rows.comment(t, i % 256, 0);
                rows.needs(t, i % 10);
            }
            Run.sign(rows, 0, 1 + i % 5, i % 10, 0);
            rows.withdraw(i);
        }
        return rows;
    }

    private static boolean throwsNothing(SignRows rows) {
        try {
            for (int a : INTS) {
                one(rows, a);
                for (int b : INTS) {
                    two(rows, a, b);
                    for (long second : LONGS) {
                        three(rows, a, b, second);
                    }
                }
            }
            return true;
        } catch (RuntimeException e) {
            System.out.println("thrown: " + e);
            return false;
        }
    }

    private static void one(SignRows rows, int a) {
        rows.person();
        rows.thing(a);
        rows.holds(a);
        rows.withdraw(a);
        rows.complete(a);
        rows.listed(a);
    }

    private static void two(SignRows rows, int a, int b) {
        rows.byteOf(a, b);
        rows.order(a, b);
        rows.digest(a, b);
        rows.needs(a, b);
    }

    private static void three(SignRows rows, int a, int b, long second) {
        rows.comment(a, b, second);
        for (long to : LONGS) {
            rows.role(a, b, second, to);
        }
        for (int c : INTS) {
            if (Run.sign(rows, a, b, c, second) == Run.THROWN + 1) {
                throw new IllegalArgumentException("sign throws a class below IllegalStateException");
            }
        }
    }
}
