/** Counts and prints what is not as due. */
final class Check {
    private int wrong = 0;
    private int made = 0;

    void due(String call, long got, long want) {
        made++;
        if (got != want) {
            wrong++;
            if (wrong <= 50) {
                System.out.println(call + " answered " + got + ", due is " + want);
            }
        }
    }

    /** A call that must throw just this exception. */
    void thrown(String call, Class<?> want, Runnable run) {
        made++;
        Class<?> got = null;
        try {
            run.run();
        } catch (RuntimeException e) {
            got = e.getClass();
        }
        if (got != want) {
            wrong++;
            System.out.println(call + " threw " + got + ", due is " + want);
        }
    }

    void end() {
        System.out.println(made + " answers, " + wrong + " not as due");
        if (wrong != 0) {
            System.exit(1);
        }
    }

    /** Adds a polynomial with coefficients of 1, y, x, yy, xy, xx. */
    static int tell(ConicMeet meet, int... coefficients) {
        int k = meet.start();
        for (int i = 0; i < 6; i++) {
            meet.term(k, A[i], B[i], coefficients[i]);
        }
        return k;
    }

    static void ask(ConicMeet meet, int... coefficients) {
        for (int i = 0; i < 6; i++) {
            meet.query(A[i], B[i], coefficients[i] - meet.at(ConicMeet.NONE, A[i], B[i]));
        }
    }

    static final int[] A = {0, 0, 1, 0, 1, 2};
    static final int[] B = {0, 1, 0, 2, 1, 0};
}
