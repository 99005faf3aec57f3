import java.util.Objects;

/** Counts the answers of a test that are not as due, and tells each of them. */
final class Due {
    /** A call whose answer, or whose exception, is asked for. */
    interface Asked {
        Object answer();
    }

    private final String test;
    private int asked;
    private int wrong;

    Due(String test) {
        this.test = test;
    }

    void is(String call, Object got, Object want) {
        asked++;
        if (!Objects.equals(plain(got), plain(want))) {
            wrong++;
            System.out.println(test + ": " + call + " answered " + got + ", due is " + want);
        }
    }

    void refused(String call, Class<? extends RuntimeException> want, Asked what) {
        String got;
        try {
            got = "the answer " + what.answer();
        } catch (RuntimeException refusal) {
            got = refusal.getClass().getName();
        }
        is(call, got, want.getName());
    }

    /** The call must answer, whatever it answers. */
    void allowed(String call, Asked what) {
        String got = "an answer";
        try {
            what.answer();
        } catch (RuntimeException refusal) {
            got = refusal.getClass().getName();
        }
        is(call, got, "an answer");
    }

    void outOfBounds(String call, Asked what) {
        refused(call, IndexOutOfBoundsException.class, what);
    }

    void illegal(String call, Asked what) {
        refused(call, IllegalArgumentException.class, what);
    }

    void unsupported(String call, Asked what) {
        refused(call, UnsupportedOperationException.class, what);
    }

    /** Tells how it went, and ends with the exit code 1 if an answer was wrong. */
    void end() {
        System.out.println(test + ": " + asked + " answers asked, " + wrong + " not as due");
        if (wrong != 0 || asked == 0) {
            System.exit(1);
        }
    }

    /** So that an int answer may be compared with a long one. */
    private static Object plain(Object number) {
        return number instanceof Integer i ? (Object) i.longValue() : number;
    }
}
