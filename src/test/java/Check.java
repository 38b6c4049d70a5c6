import java.util.function.Supplier;

/** Counts the answers of a test that are not the due ones. */
final class Check {
    private int wrong = 0;
    private int asked = 0;

    /** What a call answered, or the name of what it threw. */
    static String answer(Supplier<Object> call) {
        try {
            return String.valueOf(call.get());
        } catch (RuntimeException e) {
            return "throws " + e.getClass().getSimpleName();
        }
    }

    void due(String what, Object want, Supplier<Object> call) {
        String got = answer(call);
        asked++;
        if (!got.equals(String.valueOf(want))) {
            wrong++;
            System.out.println(what + " answered " + got + ", due is " + want);
        }
    }

    void refused(String what, Class<? extends RuntimeException> want, Supplier<Object> call) {
        due(what, "throws " + want.getSimpleName(), call);
    }

    /** What went wrong before a question could be asked. */
    void amiss(String what) {
        asked++;
        wrong++;
        System.out.println(what);
    }

    int asked() {
        return asked;
    }

    /** A test that asks nothing does not hold, either. */
    boolean holds() {
        return wrong == 0 && asked > 0;
    }

    void finish() {
        System.out.println(asked + " answers asked, " + wrong + " not as due");
        if (!holds()) {
            System.exit(1);
        }
    }
}
