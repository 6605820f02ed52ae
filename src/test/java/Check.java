/** Counts and prints what is not as due. */
final class Check {
    private int wrong = 0;
    private int made = 0;
    private int sentences = 0;
    private String sentence = "";

    /** The document's sentence that the next calls are about. */
    void about(String words) {
        sentences++;
        sentence = "[" + words + "] ";
    }

    void due(String call, long got, long want) {
        made++;
        if (got != want) {
            wrong++;
            if (wrong <= 50) {
                System.out.println(sentence + call + " answered " + got + ", due is " + want);
            }
        }
    }

    void due(String call, String got, String want) {
        made++;
        if (!got.equals(want)) {
            wrong++;
            System.out.println(sentence + call + " answered\n  " + got + "\ndue is\n  " + want);
        }
    }

    /** A call that must throw just this exception. */
    void thrown(String call, Class<?> want, Runnable run) {
        made++;
        Class<?> got = null;
        try {
            run.run();
        } catch (RuntimeException e) {
            got = e.getClass();
        }
        if (got != want) {
            wrong++;
            System.out.println(sentence + call + " threw " + got + ", due is " + want);
        }
    }

    void end() {
        String about = sentences == 0 ? "" : " about " + sentences + " sentences";
        System.out.println(made + " answers" + about + ", " + wrong + " not as due");
        if (wrong != 0) {
            System.exit(1);
        }
    }

    /** Adds a polynomial with coefficients of 1, y, x, yy, xy, xx. */
    static int tell(ConicMeet meet, int... coefficients) {
        int k = meet.start();
        for (int i = 0; i < 6; i++) {
            meet.term(k, A[i], B[i], coefficients[i]);
        }
        return k;
    }

    static void ask(ConicMeet meet, int... coefficients) {
        for (int i = 0; i < 6; i++) {
            meet.query(A[i], B[i], coefficients[i] - meet.at(ConicMeet.NONE, A[i], B[i]));
        }
    }

    /** A new object with a system and a query. */
    static ConicMeet told(int[] query, int[]... system) {
        ConicMeet meet = new ConicMeet();
        for (int[] polynomial : system) {
            tell(meet, polynomial);
        }
        ask(meet, query);
        return meet;
    }

    /** A new object with a system and a query, solved. */
    static ConicMeet solved(int[] query, int[]... system) {
        ConicMeet meet = told(query, system);
        meet.solve();
        return meet;
    }

    /** A polynomial by its coefficients of 1, y, x, yy, xy, xx. */
    static int[] p(int... coefficients) {
        return coefficients;
    }

    static final int[] ZERO = new int[6];
    static final int[] A = {0, 0, 1, 0, 1, 2};
    static final int[] B = {0, 1, 0, 2, 1, 0};
}
