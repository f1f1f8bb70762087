/** Counts what was looked at, and prints what was not as due. */
final class Check {
    private int looked = 0;
    private int wrong = 0;
    private String promise = "";

    interface Call {
        void run();
    }

    void promise(String name) {
        promise = name;
    }

    void due(String call, long got, long want) {
        looked++;
        if (got != want) {
            wrong++;
            System.out.println(promise + ": " + call + " answered " + got + ", due is " + want);
        }
    }

    void due(String call, boolean got, boolean want) {
        due(call, got ? 1 : 0, want ? 1 : 0);
    }

    void due(String call, String got, String want) {
        looked++;
        if (!got.equals(want)) {
            wrong++;
            System.out.println(promise + ": " + call + " gave " + got + ", due is " + want);
        }
    }

    /** The class must be the very one that the document names, not one below it. */
    void refused(String call, Class<? extends RuntimeException> want, Call made) {
        due(call, thrownBy(made), want.getName());
    }

    void argument(String call, Call made) {
        refused(call, IllegalArgumentException.class, made);
    }

    void unsupported(String call, Call made) {
        refused(call, UnsupportedOperationException.class, made);
    }

    void state(String call, Call made) {
        refused(call, IllegalStateException.class, made);
    }

    void index(String call, Call made) {
        refused(call, ArrayIndexOutOfBoundsException.class, made);
    }

    private static String thrownBy(Call made) {
        try {
            made.run();
            return "nothing thrown";
        } catch (RuntimeException e) {
            return e.getClass().getName();
        }
    }

    void end(String test) {
        System.out.println(test + ": " + looked + " answers looked at, " + wrong + " not as due");
        if (wrong != 0 || looked == 0) {
            System.exit(1);
        }
    }
}
