/**
 * Promises 1 to 6, 20 and 21 (what is told, solve(), count, at): a test for each sentence that names a boundary
 * case.
 */
public final class TellingTest {
    private static final Check CHECK = new Check();
    private static final Class<?> BEYOND = IndexOutOfBoundsException.class;
    private static final Class<?> WRONG = IllegalArgumentException.class;
    private static final int MAX = Integer.MAX_VALUE;
    private static final int MIN = Integer.MIN_VALUE;
    private static final int[] X = Check.p(0, 0, 1, 0, 0, 0);
    private static final int[] Y = Check.p(0, 1, 0, 0, 0, 0);
    private static final int[] CIRCLE = Check.p(-1, 0, 0, 1, 0, 1);
    private static final int[] LINE = Check.p(0, -1, 1, 0, 0, 0);
    private static final int[] FULL = Check.p(5, -5, 5, -5, 5, -5);

    public static void main(String[] args) {
        newObject();
        clearEmpties();
        clearLeavesAnswers();
        startNumbers();
        startRefused();
        termAnswersTheCoefficient();
        termOfNoPolynomial();
        termOfWrongPowers();
        termOutOfRange();
        queryAnswersTheCoefficient();
        queryOfWrongPowers();
        queryOutOfRange();
        refusedCallsChangeNothing();
        solveAsTheyAreNow();
        solveOfTheSame();
        solveOfAnother();
        solveOfNeighboursOnly();
        sameIsNotWorkedWhateverIsBetween();
        limitOfForty();
        refusedSolve();
        sameAfterTheLimit();
        countOfPolynomials();
        countOfWorked();
        countOfTheLatestAnswer();
        countOfOthers();
        atAsItIsNow();
        atWithout();
        CHECK.end();
    }

    private static void due(String call, long got, long want) {
        CHECK.due(call, got, want);
    }

    private static void empty(ConicMeet meet) {
        due("count(0)", meet.count(0), 0);
        for (int k = -1; k <= 4; k++) {
            int polynomial = k;
            CHECK.thrown("term of " + k, BEYOND, () -> meet.term(polynomial, 0, 0, 1));
            for (int i = 0; i < 6; i++) {
                due("at " + k, meet.at(k, Check.A[i], Check.B[i]), 0);
            }
        }
    }

    private static void newObject() {
        CHECK.about("1: An empty SYSTEM, QUERY 0");
        empty(new ConicMeet());
        ConicMeet other = Check.solved(FULL, FULL, FULL, FULL, FULL);
        empty(new ConicMeet());
        due("an empty SYSTEM has infinitely many ZEROS", new ConicMeet().solve(), 2);
        due("each object has its own", other.count(0), 4);
        due("each object has its own", other.at(3, 2, 0), -5);
    }

    private static void clearEmpties() {
        CHECK.about("2: The SYSTEM is empty, the QUERY 0");
        ConicMeet meet = Check.solved(FULL, FULL, FULL, FULL, FULL);
        meet.clear();
        empty(meet);
        meet.clear();
        empty(meet);
        for (int k = 0; k < 4; k++) {
            due("start", meet.start(), k);
            for (int i = 0; i < 6; i++) {
                due("what was does not come back", meet.at(k, Check.A[i], Check.B[i]), 0);
                due("term", meet.term(k, Check.A[i], Check.B[i], 5), 5);
            }
        }
        due("a fifth", meet.start(), -1);
        due("query", meet.query(1, 1, -5), -5);
        ConicMeet first = new ConicMeet();
        first.clear();
        empty(first);
        due("start", first.start(), 0);
    }

    private static void clearLeavesAnswers() {
        CHECK.about("2: ANSWERS stay");
        int[][][] systems = {{CIRCLE, LINE}, {X, Check.p(1, 0, 1, 0, 0, 0)}, {CIRCLE}, {}};
        for (int[][] system : systems) {
            ConicMeet meet = Check.solved(X, system);
            String answers = Answers.of(meet);
            meet.clear();
            CHECK.due("answers", Answers.of(meet), answers);
        }
        ConicMeet meet = new ConicMeet();
        meet.clear();
        due("UNTOLD stays", meet.elements(), -1);
        due("UNTOLD stays", meet.count(2), -1);
    }

    private static void startNumbers() {
        CHECK.about("3: One more POLYNOMIAL, 0: its number");
        ConicMeet meet = new ConicMeet();
        for (int k = 0; k < 4; k++) {
            int next = k + 1;
            due("start", meet.start(), k);
            due("count(0)", meet.count(0), next);
            for (int i = 0; i < 6; i++) {
                due("0", meet.at(k, Check.A[i], Check.B[i]), 0);
            }
            due("term", meet.term(k, 1, 0, next), next);
            CHECK.thrown("the next is not yet", BEYOND, () -> meet.term(next, 1, 0, 1));
        }
        for (int k = 0; k < 4; k++) {
            due("each is its own", meet.at(k, 1, 0), k + 1);
        }
    }

    private static void startRefused() {
        CHECK.about("3: NONE: there are four");
        ConicMeet meet = Check.told(FULL, FULL, FULL, FULL, FULL);
        for (int k = 0; k < 3; k++) {
            due("start", meet.start(), -1);
            due("count(0)", meet.count(0), 4);
        }
        for (int k = -1; k < 4; k++) {
            for (int i = 0; i < 6; i++) {
                due("at " + k, meet.at(k, Check.A[i], Check.B[i]), FULL[i]);
            }
        }
        CHECK.thrown("term of a fifth", BEYOND, () -> meet.term(4, 0, 0, 0));
    }

    private static void termAnswersTheCoefficient() {
        CHECK.about("4: c more of x^a y^b in a POLYNOMIAL: its coefficient then");
        ConicMeet meet = Check.told(Check.ZERO, Check.ZERO, Check.ZERO);
        for (int i = 0; i < 6; i++) {
            int a = Check.A[i];
            int b = Check.B[i];
            due("2", meet.term(1, a, b, 2), 2);
            due("2 - 5", meet.term(1, a, b, -5), -3);
            due("-3 + 0", meet.term(1, a, b, 0), -3);
            due("-3 + 3 + i", meet.term(1, a, b, 3 + i), i);
            for (int k = 0; k < 6; k++) {
                due("no other coefficient", meet.at(1, Check.A[k], Check.B[k]), k <= i ? k : 0);
                due("no other polynomial", meet.at(0, Check.A[k], Check.B[k]), 0);
                due("not the query", meet.at(-1, Check.A[k], Check.B[k]), 0);
            }
        }
    }

    private static void termOfNoPolynomial() {
        CHECK.about("4: IndexOutOfBoundsException: there is no such POLYNOMIAL");
        for (int size = 0; size <= 4; size++) {
            ConicMeet meet = new ConicMeet();
            for (int k = 0; k < size; k++) {
                meet.start();
            }
            for (int k : new int[] {-1, -2, size, 4, 5, MAX, MIN, 256, 65536}) {
                CHECK.thrown("term of " + k, BEYOND, () -> meet.term(k, 0, 0, 0));
                CHECK.thrown("term of " + k + " with wrong powers", BEYOND, () -> meet.term(k, -1, 3, 0));
                CHECK.thrown("term of " + k + " with a wrong coefficient", BEYOND, () -> meet.term(k, 0, 0, 6));
            }
            int last = size - 1;
            if (size > 0) {
                due("the last there is", meet.term(last, 0, 0, 1), 1);
            }
        }
    }

    /** Pairs of powers of which one is below 0. */
    private static int[] belowZero() {
        return new int[] {-1, 0, 0, -1, -1, -1, -1, 1, 1, -1, -1, 2, 2, -1, -1, 3, 3, -1, -2, 4, MIN, 0, 0, MIN, MIN,
            MIN, MIN, MAX, MAX, MIN, -MAX, MAX, MIN, 2, 2, MIN};
    }

    /** Pairs of powers that are together above 2, some beyond an int. */
    private static int[] aboveTwo() {
        return new int[] {3, 0, 0, 3, 2, 1, 1, 2, 2, 2, 4, 0, 0, 4, MAX, 0, 0, MAX, MAX, 1, 1, MAX, MAX, MAX, 1 << 30,
            1 << 30, 1 << 31 >>> 1, 1 << 31 >>> 1, 256, 0, 0, 256, 65536, 65536};
    }

    private static void termOfWrongPowers() {
        CHECK.about("4: IllegalArgumentException: a or b is below 0");
        wrongTerms(belowZero());
        CHECK.about("4: IllegalArgumentException: both together above 2");
        wrongTerms(aboveTwo());
    }

    private static void wrongTerms(int[] powers) {
        ConicMeet meet = Check.told(Check.ZERO, Check.ZERO);
        for (int i = 0; i < powers.length; i += 2) {
            int a = powers[i];
            int b = powers[i + 1];
            CHECK.thrown("term " + a + " " + b, WRONG, () -> meet.term(0, a, b, 0));
            CHECK.thrown("term " + a + " " + b, WRONG, () -> meet.term(0, a, b, 1));
        }
    }

    private static final int[] FAR = {6, -6, 11, -11, 100, MAX, MIN, MAX - 4, MIN + 5, 1 << 30, 1 << 16};

    private static void termOutOfRange() {
        CHECK.about("4: IllegalArgumentException: the coefficient would not be -5 .. 5");
        ConicMeet meet = Check.told(Check.ZERO, Check.ZERO);
        for (int i = 0; i < 6; i++) {
            int a = Check.A[i];
            int b = Check.B[i];
            due("5", meet.term(0, a, b, 5), 5);
            CHECK.thrown("5 + 1", WRONG, () -> meet.term(0, a, b, 1));
            CHECK.thrown("5 + MAX", WRONG, () -> meet.term(0, a, b, MAX));
            CHECK.thrown("5 - 11", WRONG, () -> meet.term(0, a, b, -11));
            due("5 - 10", meet.term(0, a, b, -10), -5);
            CHECK.thrown("-5 - 1", WRONG, () -> meet.term(0, a, b, -1));
            CHECK.thrown("-5 + MIN", WRONG, () -> meet.term(0, a, b, MIN));
            CHECK.thrown("-5 + 11", WRONG, () -> meet.term(0, a, b, 11));
            due("-5 + 10", meet.term(0, a, b, 10), 5);
            due("5 - 5", meet.term(0, a, b, -5), 0);
            for (int c : FAR) {
                CHECK.thrown("0 + " + c, WRONG, () -> meet.term(0, a, b, c));
            }
            due("0 + 0", meet.term(0, a, b, 0), 0);
        }
    }

    private static void queryAnswersTheCoefficient() {
        CHECK.about("5: c more of x^a y^b in the QUERY: its coefficient then");
        ConicMeet meet = Check.told(Check.ZERO, Check.ZERO);
        for (int i = 0; i < 6; i++) {
            int a = Check.A[i];
            int b = Check.B[i];
            due("2", meet.query(a, b, 2), 2);
            due("2 - 5", meet.query(a, b, -5), -3);
            due("-3 + 0", meet.query(a, b, 0), -3);
            due("-3 + 3 + i", meet.query(a, b, 3 + i), i);
            for (int k = 0; k < 6; k++) {
                due("no other coefficient", meet.at(-1, Check.A[k], Check.B[k]), k <= i ? k : 0);
                due("no polynomial", meet.at(0, Check.A[k], Check.B[k]), 0);
            }
        }
        due("a query needs no polynomial", new ConicMeet().query(0, 2, 5), 5);
    }

    private static void queryOfWrongPowers() {
        CHECK.about("5: IllegalArgumentException likewise: a or b is below 0");
        wrongQueries(belowZero());
        CHECK.about("5: IllegalArgumentException likewise: both together above 2");
        wrongQueries(aboveTwo());
    }

    private static void wrongQueries(int[] powers) {
        ConicMeet meet = new ConicMeet();
        for (int i = 0; i < powers.length; i += 2) {
            int a = powers[i];
            int b = powers[i + 1];
            CHECK.thrown("query " + a + " " + b, WRONG, () -> meet.query(a, b, 0));
            CHECK.thrown("query " + a + " " + b, WRONG, () -> meet.query(a, b, 1));
        }
    }

    private static void queryOutOfRange() {
        CHECK.about("5: IllegalArgumentException likewise: the coefficient would not be -5 .. 5");
        ConicMeet meet = new ConicMeet();
        for (int i = 0; i < 6; i++) {
            int a = Check.A[i];
            int b = Check.B[i];
            due("5", meet.query(a, b, 5), 5);
            CHECK.thrown("5 + 1", WRONG, () -> meet.query(a, b, 1));
            CHECK.thrown("5 + MAX", WRONG, () -> meet.query(a, b, MAX));
            due("5 - 10", meet.query(a, b, -10), -5);
            CHECK.thrown("-5 - 1", WRONG, () -> meet.query(a, b, -1));
            CHECK.thrown("-5 + MIN", WRONG, () -> meet.query(a, b, MIN));
            due("-5 + 5", meet.query(a, b, 5), 0);
            for (int c : FAR) {
                CHECK.thrown("0 + " + c, WRONG, () -> meet.query(a, b, c));
            }
            due("0 + 0", meet.query(a, b, 0), 0);
        }
    }

    private static void refusedCallsChangeNothing() {
        CHECK.about("4, 5: a refused call changes nothing");
        ConicMeet meet = Check.solved(FULL, FULL, FULL);
        String answers = Answers.of(meet);
        for (int i = 0; i < 6; i++) {
            int a = Check.A[i];
            int b = Check.B[i];
            int more = FULL[i] > 0 ? 1 : -1;
            CHECK.thrown("term", WRONG, () -> meet.term(1, a, b, more));
            CHECK.thrown("term", BEYOND, () -> meet.term(2, a, b, more));
            CHECK.thrown("query", WRONG, () -> meet.query(a, b, more));
            for (int k = -1; k < 2; k++) {
                due("at " + k, meet.at(k, a, b), FULL[i]);
            }
        }
        CHECK.thrown("term", WRONG, () -> meet.term(0, 3, 0, 1));
        CHECK.thrown("query", WRONG, () -> meet.query(0, 3, 1));
        due("count(0)", meet.count(0), 2);
        due("nothing to work", meet.solve(), 2);
        CHECK.due("answers", Answers.of(meet), answers);
    }

    private static void solveAsTheyAreNow() {
        CHECK.about("6: The ANSWERS are of SYSTEM and QUERY as they are now: 0 no ZEROS, 1 finitely many, 2 infinitely "
            + "many");
        ConicMeet meet = new ConicMeet();
        due("no polynomial", meet.solve(), 2);
        meet.start();
        due("0", meet.solve(), 2);
        meet.term(0, 1, 0, 1);
        due("x", meet.solve(), 2);
        meet.start();
        meet.term(1, 0, 1, 1);
        due("x, y", meet.solve(), 1);
        due("h", meet.remainder(0, 0), 0);
        meet.query(0, 0, 4);
        due("the QUERY as it was", meet.remainder(0, 0), 0);
        due("x, y", meet.solve(), 1);
        due("the QUERY as it is", meet.remainder(0, 0), 4);
        meet.term(1, 0, 1, -1);
        meet.term(1, 0, 0, 1);
        due("x, 1", meet.solve(), 0);
        meet.term(1, 0, 0, -1);
        due("x, 0", meet.solve(), 2);
        meet.term(1, 2, 0, 1);
        due("x, xx", meet.solve(), 2);
        meet.start();
        meet.term(2, 0, 2, 1);
        meet.term(2, 0, 0, 1);
        due("x, xx, yy + 1", meet.solve(), 1);
        meet.start();
        meet.term(3, 0, 1, 5);
        due("x, xx, yy + 1, y", meet.solve(), 0);
    }

    private static void solveOfTheSame() {
        CHECK.about("6: one of the same SYSTEM and QUERY as the one ahead of it has not [to be worked]");
        int[] beside = Check.p(1, 0, 1, 0, 0, 0);
        int[][][] systems = {{}, {Check.ZERO}, {CIRCLE, LINE}, {X, beside}, {FULL, FULL, FULL, CIRCLE}};
        int[] answers = {2, 2, 1, 0, 1};
        for (int k = 0; k < systems.length; k++) {
            ConicMeet meet = Check.told(X, systems[k]);
            due("the first is worked", meet.solve(), answers[k]);
            due("worked", meet.count(1), 1);
            for (int again = 0; again < 100; again++) {
                due("the same", meet.solve(), answers[k]);
            }
            due("worked", meet.count(1), 1);
        }
        ConicMeet first = new ConicMeet();
        due("an empty first one is worked", first.solve(), 2);
        due("worked", first.count(1), 1);
    }

    private static void solveOfAnother() {
        CHECK.about("6: the same SYSTEM, number by number, and QUERY");
        for (int k = 0; k < 3; k++) {
            for (int i = 0; i < 6; i++) {
                ConicMeet meet = Check.solved(Check.ZERO, Check.ZERO, Check.ZERO);
                if (k == 2) {
                    meet.query(Check.A[i], Check.B[i], -1);
                } else {
                    meet.term(k, Check.A[i], Check.B[i], -1);
                }
                meet.solve();
                due("one coefficient more", meet.count(1), 2);
                meet.solve();
                due("the same again", meet.count(1), 2);
            }
        }
        ConicMeet meet = Check.solved(X, CIRCLE, LINE);
        retell(meet, X, LINE, CIRCLE);
        due("in another order", meet.solve(), 1);
        due("worked", meet.count(1), 2);
        retell(meet, X, LINE, CIRCLE, LINE);
        due("one of them twice", meet.solve(), 1);
        due("worked", meet.count(1), 3);
        retell(meet, X, LINE, Check.p(-2, 0, 0, 2, 0, 2), LINE);
        due("one of them doubled", meet.solve(), 1);
        due("worked", meet.count(1), 4);
        retell(meet, X, LINE, Check.p(-2, 0, 0, 2, 0, 2));
        due("one less", meet.solve(), 1);
        due("worked", meet.count(1), 5);
        meet.start();
        due("a 0 more", meet.solve(), 1);
        due("worked", meet.count(1), 6);
        meet.clear();
        due("cleared", meet.solve(), 2);
        due("worked", meet.count(1), 7);
    }

    private static void retell(ConicMeet meet, int[] query, int[]... system) {
        meet.clear();
        for (int[] polynomial : system) {
            Check.tell(meet, polynomial);
        }
        Check.ask(meet, query);
    }

    private static void solveOfNeighboursOnly() {
        CHECK.about("6: as the one ahead of it: not as one further ahead");
        ConicMeet meet = Check.solved(X, CIRCLE, LINE);
        retell(meet, Y, CIRCLE, LINE);
        due("another", meet.solve(), 1);
        retell(meet, X, CIRCLE, LINE);
        due("the first again", meet.solve(), 1);
        due("worked", meet.count(1), 3);
    }

    private static void sameIsNotWorkedWhateverIsBetween() {
        CHECK.about("6: what is told between two solve() and taken back leaves the same SYSTEM and QUERY");
        ConicMeet meet = Check.solved(X, CIRCLE, LINE);
        meet.term(0, 1, 1, 3);
        meet.query(0, 0, 2);
        meet.term(0, 1, 1, -3);
        meet.query(0, 0, -2);
        due("told and taken back", meet.solve(), 1);
        retell(meet, X, CIRCLE, LINE);
        due("cleared and told again", meet.solve(), 1);
        due("worked", meet.count(1), 1);
    }

    /** An object whose 40 solve() are worked: x and y, asked for 1 and then for 0 and so on. */
    private static ConicMeet exhausted() {
        ConicMeet meet = Check.told(Check.ZERO, X, Y);
        for (int k = 0; k < 40; k++) {
            meet.query(0, 0, k % 2 == 0 ? 1 : -1);
            due("solve " + k, meet.solve(), 1);
            due("worked", meet.count(1), k + 1);
            due("the ANSWERS are of this one", meet.remainder(0, 0), 1 - k % 2);
        }
        return meet;
    }

    private static void limitOfForty() {
        CHECK.about("6: NONE: 40 solve() that had to be worked were done");
        ConicMeet meet = exhausted();
        meet.query(0, 0, 1);
        due("the 41st", meet.solve(), -1);
        due("the 41st again", meet.solve(), -1);
        due("worked", meet.count(1), 40);
        meet.clear();
        due("clear() gives none back", meet.solve(), -1);
        due("worked", meet.count(1), 40);
        CHECK.about("6: those that had not to be worked do not count");
        ConicMeet idle = Check.told(Check.ZERO, X, Y);
        for (int k = 0; k < 40; k++) {
            for (int again = 0; again < 5; again++) {
                due("solve", idle.solve(), 1);
            }
            idle.query(0, 0, k % 2 == 0 ? 1 : -1);
        }
        due("worked", idle.count(1), 40);
        due("the 41st", idle.solve(), -1);
        CHECK.about("6: the limit is each object's own");
        due("another object", Check.told(Check.ZERO, X, Y).solve(), 1);
    }

    private static void refusedSolve() {
        CHECK.about("6: NONE, and ANSWERS stay");
        ConicMeet meet = exhausted();
        String answers = Answers.of(meet);
        meet.term(0, 2, 0, 1);
        meet.query(0, 0, 3);
        due("refused", meet.solve(), -1);
        CHECK.due("answers", Answers.of(meet), answers);
        due("what is told is as it was", meet.at(0, 2, 0), 1);
        due("what is told is as it was", meet.at(-1, 0, 0), 3);
        due("what is told is as it was", meet.count(0), 2);
    }

    private static void sameAfterTheLimit() {
        CHECK.about("6: after 40, one of the same SYSTEM and QUERY as the latest that was not NONE is answered");
        ConicMeet meet = exhausted();
        due("the same", meet.solve(), 1);
        due("the same", meet.solve(), 1);
        meet.query(0, 0, 3);
        due("another", meet.solve(), -1);
        meet.query(0, 0, -3);
        due("the same as the latest that was not NONE", meet.solve(), 1);
        due("worked", meet.count(1), 40);
    }

    private static void countOfPolynomials() {
        CHECK.about("20: 0 POLYNOMIALS of the SYSTEM now");
        ConicMeet meet = new ConicMeet();
        for (int k = 0; k < 6; k++) {
            due("count(0)", meet.count(0), Math.min(k, 4));
            meet.start();
        }
        meet.solve();
        due("count(0)", meet.count(0), 4);
        meet.clear();
        due("count(0)", meet.count(0), 0);
    }

    private static void countOfWorked() {
        CHECK.about("20: 1 solve() that were worked");
        ConicMeet meet = new ConicMeet();
        due("none yet", meet.count(1), 0);
        meet.solve();
        due("one", meet.count(1), 1);
        meet.clear();
        due("clear() leaves it", meet.count(1), 1);
        meet.solve();
        due("not worked", meet.count(1), 1);
        meet.query(0, 0, 1);
        due("not yet solved", meet.count(1), 1);
        meet.solve();
        due("two", meet.count(1), 2);
    }

    private static void countOfTheLatestAnswer() {
        CHECK.about("20: 2 what the latest solve() that was not NONE answered (NONE without)");
        ConicMeet meet = new ConicMeet();
        due("without", meet.count(2), -1);
        meet.start();
        meet.clear();
        due("without", meet.count(2), -1);
        meet.solve();
        due("infinitely many", meet.count(2), 2);
        retell(meet, X, X, Y);
        due("not yet solved", meet.count(2), 2);
        meet.solve();
        due("finitely many", meet.count(2), 1);
        meet.solve();
        due("finitely many", meet.count(2), 1);
        retell(meet, X, X, Check.p(1, 0, 1, 0, 0, 0));
        meet.solve();
        due("no zeros", meet.count(2), 0);
        meet.clear();
        due("cleared", meet.count(2), 0);
        ConicMeet done = exhausted();
        done.clear();
        due("refused", done.solve(), -1);
        due("the latest that was not NONE", done.count(2), 1);
    }

    private static void countOfOthers() {
        CHECK.about("20: NONE for others");
        ConicMeet meet = Check.solved(X, X, Y);
        for (int what : new int[] {-1, 3, 4, MAX, MIN, 256}) {
            due("count " + what, meet.count(what), -1);
            due("count " + what, new ConicMeet().count(what), -1);
        }
    }

    private static void atAsItIsNow() {
        CHECK.about("21: The coefficient of x^a y^b in a POLYNOMIAL as it is now (polynomial NONE: in the QUERY)");
        int[] reversed = Check.p(-5, 5, -5, 5, -5, 5);
        ConicMeet meet = Check.solved(Check.p(1, 2, 3, -1, -2, -3), FULL, reversed);
        for (int i = 0; i < 6; i++) {
            int a = Check.A[i];
            int b = Check.B[i];
            due("at 0", meet.at(0, a, b), FULL[i]);
            due("at 1", meet.at(1, a, b), reversed[i]);
            due("at NONE", meet.at(ConicMeet.NONE, a, b), i < 3 ? i + 1 : 2 - i);
            meet.term(0, a, b, -FULL[i]);
            meet.query(a, b, i < 3 ? 1 : -1);
            due("at 0 now", meet.at(0, a, b), 0);
            due("at NONE now", meet.at(ConicMeet.NONE, a, b), i < 3 ? i + 2 : 1 - i);
        }
    }

    private static void atWithout() {
        CHECK.about("21: 0 without");
        int[] ones = Check.p(1, 1, 1, 1, 1, 1);
        for (int size = 0; size <= 4; size++) {
            ConicMeet meet = Check.told(ones);
            for (int k = 0; k < size; k++) {
                Check.tell(meet, ones);
            }
            for (int k : new int[] {-2, size, 4, 5, MAX, MIN}) {
                for (int i = 0; i < 6; i++) {
                    due("no such polynomial", meet.at(k, Check.A[i], Check.B[i]), 0);
                }
            }
        }
        ConicMeet meet = Check.told(ones, ones);
        for (int[] powers : new int[][] {belowZero(), aboveTwo()}) {
            for (int i = 0; i < powers.length; i += 2) {
                for (int k = -2; k < 2; k++) {
                    due("no such monomial", meet.at(k, powers[i], powers[i + 1]), 0);
                }
            }
        }
    }
}
