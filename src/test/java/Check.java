import java.util.function.IntConsumer;

/** Counts the answers of one test that are not as due, and tells each. */
final class Check {
    private final String heading;
    private int asked = 0;
    private int wrong = 0;

    Check() {
        this("");
    }

    /** The heading stands before each answer that is not as due. */
    Check(String heading) {
        this.heading = heading;
    }

    int asked() {
        return asked;
    }

    int wrong() {
        return wrong;
    }

    void due(String call, long got, long want) {
        asked++;
        if (got != want) {
            tell(call + " answered " + got + ", due is " + want);
        }
    }

    void due(String call, boolean got, boolean want) {
        due(call, got ? 1L : 0L, want ? 1L : 0L);
    }

    /** For answers that are doubles by their bits. */
    void dueDouble(String call, long got, double want) {
        asked++;
        if (got != Double.doubleToLongBits(want)) {
            tell(call + " answered " + Double.longBitsToDouble(got) + ", due is " + want);
        }
    }

    void dueText(String call, String got, String want) {
        asked++;
        if (!got.equals(want)) {
            tell(call + " answered " + got + ", due is " + want);
        }
    }

    /** Exactly this class is due, thrown by the program: another is what the machine throws by itself. */
    void dueThrow(String call, Class<? extends RuntimeException> want, Runnable run) {
        asked++;
        try {
            run.run();
        } catch (RuntimeException e) {
            if (e.getClass() != want || !isThrownByProgram(e)) {
                tell(call + " threw " + e + ", due is " + want.getSimpleName() + " by the program");
            }
            return;
        }
        tell(call + " threw nothing, due is " + want.getSimpleName());
    }

    /** False if the machine or the library threw it, on its own. */
    static boolean isThrownByProgram(Throwable e) {
        StackTraceElement[] calls = e.getStackTrace();
        return calls.length > 0 && calls[0].getClassName().startsWith("Transitry");
    }

    void noIndex(String call, Runnable run) {
        dueThrow(call, IndexOutOfBoundsException.class, run);
    }

    void noArgument(String call, Runnable run) {
        dueThrow(call, IllegalArgumentException.class, run);
    }

    void noState(String call, Runnable run) {
        dueThrow(call, IllegalStateException.class, run);
    }

    /** The call throws by each of these values. */
    void noIndex(String call, int[] values, IntConsumer run) {
        for (int value : values) {
            noIndex(call + " " + value, () -> run.accept(value));
        }
    }

    void noArgument(String call, int[] values, IntConsumer run) {
        for (int value : values) {
            noArgument(call + " " + value, () -> run.accept(value));
        }
    }

    void noState(String call, int[] values, IntConsumer run) {
        for (int value : values) {
            noState(call + " " + value, () -> run.accept(value));
        }
    }

    /** The values just beyond both ends of a range, and the ints that are farthest from it. */
    static int[] beyond(int least, int greatest) {
        return new int[] {
            least - 1, greatest + 1, Integer.MIN_VALUE, Integer.MIN_VALUE + 1, Integer.MAX_VALUE - 1, Integer.MAX_VALUE,
        };
    }

    void end() {
        System.out.println(asked + " answers asked, " + wrong + " not as due");
        if (wrong != 0 || asked == 0) {
            System.exit(1);
        }
    }

    private void tell(String what) {
        wrong++;
        if (wrong <= 40) {
            System.out.println(heading + what);
        }
    }
}
