import java.util.Objects;

/** Counts the answers that are not as due, prints each, and ends the test. */
final class Check {
    private int wrong;
    private int asked;

    void due(String call, Object got, Object want) {
        asked++;
        if (!Objects.equals(got, want)) {
            wrong++;
            System.out.println(call + " answered " + got + ", due is " + want);
        }
    }

    void noCell(String call, Runnable run) {
        throwing(call, IndexOutOfBoundsException.class, run);
    }

    void noArgument(String call, Runnable run) {
        throwing(call, IllegalArgumentException.class, run);
    }

    private void throwing(String call, Class<?> want, Runnable run) {
        Object got = "nothing";
        try {
            run.run();
        } catch (RuntimeException thrown) {
            got = thrown.getClass();
        }
        due(call + " throwing", got, want);
    }

    void end() {
        System.out.println(asked + " answers, " + wrong + " not as due");
        if (wrong > 0) {
            System.exit(1);
        }
    }
}
