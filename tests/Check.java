import java.util.Objects;

/** Counts the answers that are not as due, prints the first ones, and ends the test. */
final class Check {
    private static final int MOST_PRINTED = 40;

    private int wrong;
    private int asked;

    void due(String call, Object got, Object want) {
        asked++;
        if (!Objects.equals(got, want)) {
            wrong++;
            if (wrong <= MOST_PRINTED) {
                System.out.println(call + " answered " + got + ", due is " + want);
            }
        }
    }

    void noCell(String call, Runnable run) {
        throwing(call, IndexOutOfBoundsException.class, run);
    }

    void noArgument(String call, Runnable run) {
        throwing(call, IllegalArgumentException.class, run);
    }

    /** The very class is due: one below it would be another exception than the document names. */
    void throwing(String call, Class<?> want, Runnable run) {
        due(call + " throwing", thrownBy(run), want);
    }

    static Object thrownBy(Runnable run) {
        try {
            run.run();
        } catch (RuntimeException thrown) {
            return thrown.getClass();
        }
        return "nothing";
    }

    void end() {
        System.out.println(asked + " answers, " + wrong + " not as due");
        if (wrong > 0) {
            System.exit(1);
        }
    }
}
