import java.util.Random;

/** 'What it is' and 'Terms': a test for each sentence there that names a boundary case, in the document's order. */
public final class TermsTest {
    private static final Check CHECK = new Check();
    private static final Class<?> EARLY = IllegalStateException.class;
    private static final int[] X = Check.p(0, 0, 1, 0, 0, 0);
    private static final int[] Y = Check.p(0, 1, 0, 0, 0, 0);
    private static final int[] YY = Check.p(0, 0, 0, 1, 0, 0);
    private static final int[] XY = Check.p(0, 0, 0, 0, 1, 0);
    private static final int[] XX = Check.p(0, 0, 0, 0, 0, 1);
    private static final int[] CIRCLE = Check.p(-5, 0, 0, 1, 0, 1);
    private static final int[] HYPERBOLA = Check.p(-2, 0, 0, 0, 1, 0);
    private static final int[] NO_LEADS = {};

    public static void main(String[] args) {
        lastOf512Calls();
        queryIsZeroAtFirst();
        monomialsAreToldAs16AAndB();
        leadsAndStandardMonomialsInOrder();
        zerosArePairsOfComplexNumbers();
        withoutPolynomialsOtherThanZero();
        withoutZerosItIsOneAlone();
        basisIsReduced();
        standardFinitelyManyJustIfZerosAre();
        remainderDiffersByOneOfTheIdeal();
        tableIsOfRemaindersInColumns();
        formsAreTraces();
        formZeroWhereTheQueryIsZero();
        squaresWithNegativeFactors();
        fractionsInLowestTerms();
        fractionsBeyondALong();
        toldLaterDoesNotChange();
        answersAreOfTheLatest();
        untoldAheadOfAny();
        finiteAlsoWithInfinitelyMany();
        noStandardMonomialsWithoutZeros();
        CHECK.end();
    }

    private static void due(String call, long got, long want) {
        CHECK.due(call, got, want);
    }

    private static void fraction(String call, long over, long under, long wantOver, long wantUnder) {
        due(call + " numerator", over, wantOver);
        due(call + " denominator", under, wantUnder);
    }

    private static void lastOf512Calls() {
        CHECK.about("An object is used for at most 512 calls after it has been made");
        ConicMeet meet = new ConicMeet();
        int calls = 0;
        for (int k = 0; k < 2; k++) {
            meet.start();
            meet.term(k, k, 1 - k, 1);
            calls += 2;
        }
        for (int k = 0; k < 40; k++) {
            meet.query(0, 0, k % 2 == 0 ? 1 : -1);
            due("solve " + k, meet.solve(), 1);
            calls += 2;
        }
        while (calls < 511) {
            due("call " + calls, meet.complex(), 1);
            calls++;
        }
        due("the 512th call", meet.real(0), 1);
    }

    private static void queryIsZeroAtFirst() {
        CHECK.about("besides there is one QUERY h (0 at first)");
        ConicMeet meet = new ConicMeet();
        Check.tell(meet, Y);
        Check.tell(meet, Check.p(-4, 0, 0, 0, 0, 1));
        due("solve", meet.solve(), 1);
        due("member", meet.member(), 1);
        due("all real ones", meet.real(2), 2);
        due("h is 0 at all", meet.real(0), 2);
        for (int k = 0; k < 6; k++) {
            due("at", meet.at(ConicMeet.NONE, Check.A[k], Check.B[k]), 0);
        }
    }

    private static void monomialsAreToldAs16AAndB() {
        CHECK.about("MONOMIALS x^a y^b are told as 16 a + b");
        int[][] single = {Y, X, YY, XY, XX};
        int[] told = {1, 16, 2, 17, 32};
        for (int k = 0; k < single.length; k++) {
            ConicMeet meet = Check.solved(Check.ZERO, single[k]);
            due("lead", meet.lead(0), told[k]);
        }
        due("1", Check.solved(Check.ZERO, Check.p(1, 0, 0, 0, 0, 0)).lead(0), 0);
        ConicMeet meet = Check.solved(Check.ZERO, CIRCLE, HYPERBOLA);
        due("yyy", meet.lead(2), 3);
    }

    /** Every set of leads that a reduced basis of such systems can have, but for those of one element. */
    private static void leadsAndStandardMonomialsInOrder() {
        CHECK.about("Their order: the lower degree first, of one degree the lower a first (1, y, x, yy, xy, xx, ..)");
        shape(1, new int[] {1, 16}, new int[] {0}, X, Y);
        shape(1, new int[] {1, 32}, new int[] {0, 16}, XX, Y);
        shape(1, new int[] {16, 2}, new int[] {0, 1}, YY, X);
        shape(1, new int[] {2, 17, 32}, new int[] {0, 1, 16}, XX, XY, YY);
        shape(1, new int[] {2, 32}, new int[] {0, 1, 16, 17}, XX, YY);
        shape(1, new int[] {17, 32, 3}, new int[] {0, 1, 16, 2}, CIRCLE, HYPERBOLA);
        shape(2, new int[] {2, 17}, NO_LEADS, XY, YY);
        shape(2, new int[] {17, 32}, NO_LEADS, XX, XY);
        shape(1, new int[] {2, 32}, new int[] {0, 1, 16, 17}, Check.p(0, 0, 0, 1, 0, 1), Check.p(1, 0, 0, 1, 0, -1));
        CHECK.about("the order of a polynomial's own MONOMIALS: its LEAD is the greatest");
        int[] all = Check.p(1, 1, 1, 1, 1, 1);
        int[] leads = {0, 1, 16, 2, 17, 32};
        for (int k = 5; k >= 0; k--) {
            due("lead of a polynomial of " + (k + 1) + " terms", Check.solved(Check.ZERO, all).lead(0), leads[k]);
            all[k] = 0;
        }
    }

    private static void shape(int kind, int[] leads, int[] standard, int[]... system) {
        ConicMeet meet = Check.told(Check.ZERO, system);
        due("solve", meet.solve(), kind);
        due("elements", meet.elements(), leads.length);
        for (int k = 0; k < leads.length; k++) {
            due("lead " + k, meet.lead(k), leads[k]);
        }
        due("lead beyond", meet.lead(leads.length), -1);
        due("standard", meet.standard(), kind == 2 ? -1 : standard.length);
        for (int i = 0; i < standard.length; i++) {
            due("monomial " + i, meet.monomial(i), standard[i]);
        }
        due("monomial beyond", meet.monomial(standard.length), -1);
    }

    private static void zerosArePairsOfComplexNumbers() {
        CHECK.about("ZEROS are pairs of complex numbers at which all POLYNOMIALS of the SYSTEM are 0");
        ConicMeet meet = Check.told(Check.ZERO, Check.p(1, 0, 0, 0, 0, 1), Y);
        due("xx + 1 and y", meet.solve(), 1);
        due("complex", meet.complex(), 2);
        due("real", meet.real(2), 0);
        due("xx + yy + 1 has no real zero", Check.told(Check.ZERO, Check.p(1, 0, 0, 1, 0, 1)).solve(), 2);
        due("xx + yy has one real zero", Check.told(Check.ZERO, Check.p(0, 0, 0, 1, 0, 1)).solve(), 2);
    }

    private static void withoutPolynomialsOtherThanZero() {
        CHECK.about("Without POLYNOMIALS other than 0 it has none");
        ConicMeet meet = new ConicMeet();
        for (int k = 0; k <= 4; k++) {
            due(k + " polynomials 0", meet.solve(), 2);
            due("elements", meet.elements(), 0);
            due("lead", meet.lead(0), -1);
            due("coefficient", meet.coefficient(0, 0, 0, 0), 0);
            due("coefficient", meet.coefficient(0, 0, 0, 1), 1);
            due("complex", meet.complex(), -1);
            due("standard", meet.standard(), -1);
            due("0 is of the IDEAL", meet.member(), 1);
            meet.start();
        }
        meet.query(1, 1, 1);
        due("solve", meet.solve(), 2);
        due("xy is not of the IDEAL", meet.member(), 0);
        meet.term(2, 1, 1, 1);
        due("one is other than 0", meet.solve(), 2);
        due("elements", meet.elements(), 1);
        due("xy is of the IDEAL", meet.member(), 1);
    }

    private static void withoutZerosItIsOneAlone() {
        CHECK.about("without ZEROS it is 1 alone");
        int[] four = Check.p(-4, 0, 0, 0, 0, 0);
        int[] above = Check.p(1, 0, 0, 1, 0, 1);
        int[] below = Check.p(-1, 0, 0, 1, 0, 1);
        int[][][] systems = {{four}, {four, four, four, four}, {CIRCLE, HYPERBOLA, XX, four}, {above, below},
            {Check.ZERO, above, Check.ZERO, below}, {Check.p(1, 0, 0, 0, 1, 0), XX}, {X, Y, Check.p(1, 2, 3, 4, 5, 5)}};
        for (int[][] system : systems) {
            ConicMeet meet = Check.told(CIRCLE, system);
            due("solve", meet.solve(), 0);
            due("elements", meet.elements(), 1);
            due("lead", meet.lead(0), 0);
            due("no other", meet.lead(1), -1);
            fraction("1", meet.coefficient(0, 0, 0, 0), meet.coefficient(0, 0, 0, 1), 1, 1);
            for (int k = 1; k < 6; k++) {
                fraction("0", meet.coefficient(0, Check.A[k], Check.B[k], 0),
                    meet.coefficient(0, Check.A[k], Check.B[k], 1), 0, 1);
            }
            due("all are of the IDEAL", meet.member(), 1);
        }
    }

    private static void basisIsReduced() {
        CHECK.about("of each of its ELEMENTS the LEAD has coefficient 1, no MONOMIAL of an ELEMENT is a multiple of "
            + "another one's LEAD; the ELEMENTS in the order of their LEADS");
        Random random = new Random(5);
        for (int round = 0; round < 1500; round++) {
            int size = 1 + random.nextInt(4);
            int most = 1 + random.nextInt(5);
            int[][] system = new int[size][6];
            for (int[] polynomial : system) {
                for (int k = 0; k < 6; k++) {
                    polynomial[k] = random.nextInt(3) == 0 ? 0 : random.nextInt(2 * most + 1) - most;
                }
            }
            reduced(Check.solved(system[random.nextInt(size)], system));
        }
    }

    private static int degree(int told) {
        return told / 16 + told % 16;
    }

    private static int compare(int told, int other) {
        return degree(told) != degree(other) ? degree(told) - degree(other) : told / 16 - other / 16;
    }

    private static void reduced(ConicMeet meet) {
        int size = meet.elements();
        int[] leads = new int[size];
        for (int k = 0; k < size; k++) {
            leads[k] = meet.lead(k);
            due("leads go up", k == 0 || compare(leads[k - 1], leads[k]) < 0 ? 1 : 0, 1);
        }
        for (int k = 0; k < size; k++) {
            fraction("lead", meet.coefficient(k, leads[k] / 16, leads[k] % 16, 0),
                meet.coefficient(k, leads[k] / 16, leads[k] % 16, 1), 1, 1);
            for (int a = 0; a < 4; a++) {
                for (int b = 0; b < 4 - a; b++) {
                    if (meet.coefficient(k, a, b, 0) == 0) {
                        continue;
                    }
                    due("no monomial is above the lead", compare(16 * a + b, leads[k]) <= 0 ? 1 : 0, 1);
                    for (int j = 0; j < size; j++) {
                        boolean multiple = a >= leads[j] / 16 && b >= leads[j] % 16;
                        due("a multiple of another's lead", j != k && multiple ? 1 : 0, 0);
                    }
                }
            }
        }
        due("a polynomial of the system is of the ideal", meet.member(), 1);
    }

    private static void standardFinitelyManyJustIfZerosAre() {
        CHECK.about("there are finitely many just if there are finitely many ZEROS");
        int[] lines = Check.p(0, 0, 0, 0, 1, 1);
        int[] other = Check.p(0, 0, -1, 0, 0, 1);
        due("x (x + y) and x (x - 1)", Check.solved(X, lines, other).standard(), -1);
        due("one curve", Check.solved(X, CIRCLE).standard(), -1);
        due("a curve twice", Check.solved(X, CIRCLE, CIRCLE).standard(), -1);
        due("two curves", Check.solved(X, CIRCLE, HYPERBOLA).standard(), 4);
        due("two that touch", Check.solved(X, Check.p(-1, 0, 0, 1, 0, 1), Check.p(-1, 0, 1, 0, 0, 0)).standard(), 2);
        due("parallel lines", Check.solved(X, X, Check.p(1, 0, 1, 0, 0, 0)).standard(), 0);
    }

    private static void remainderDiffersByOneOfTheIdeal() {
        CHECK.about("The REMAINDER of a polynomial is what differs from it by one of the IDEAL and has STANDARD "
            + "MONOMIALS alone");
        ConicMeet meet = Check.solved(XX, CIRCLE, HYPERBOLA);
        long[] want = {5, 0, 0, -1};
        for (int i = 0; i < 4; i++) {
            fraction("xx leaves 5 - yy", meet.remainder(i, 0), meet.remainder(i, 1), want[i], 1);
        }
        Check.ask(meet, YY);
        meet.solve();
        for (int i = 0; i < 4; i++) {
            fraction("yy is standard", meet.remainder(i, 0), meet.remainder(i, 1), i == 3 ? 1 : 0, 1);
        }
        Check.ask(meet, Check.p(-5, 0, 0, 1, 0, 1));
        meet.solve();
        due("xx less its remainder", meet.member(), 1);
    }

    private static void tableIsOfRemaindersInColumns() {
        CHECK.about("TABLE of a polynomial f: entry i, j is the coefficient of b_i in the REMAINDER of f b_j");
        ConicMeet meet = Check.solved(Check.p(3, 0, 1, 0, 0, 0), Check.p(-2, 0, 0, 0, 0, 1), Y);
        long[][] tables = {{0, 2, 1, 0}, {0, 0, 0, 0}, {3, 2, 1, 3}};
        for (int of = 0; of < 3; of++) {
            for (int k = 0; k < 4; k++) {
                fraction("table " + of + " " + k, meet.table(of, k / 2, k % 2, 0), meet.table(of, k / 2, k % 2, 1),
                    tables[of][k], 1);
            }
        }
    }

    private static void formsAreTraces() {
        CHECK.about("FORM e (0, 1, 2): entry i, j is the trace of the TABLE of h to the e times b_i b_j");
        ConicMeet meet = Check.solved(Check.p(3, 0, 1, 0, 0, 0), Check.p(-2, 0, 0, 0, 0, 1), Y);
        long[][] forms = {{2, 0, 0, 4}, {6, 4, 4, 12}, {22, 24, 24, 44}};
        for (int e = 0; e < 3; e++) {
            for (int k = 0; k < 4; k++) {
                fraction("form " + e + " " + k, meet.form(e, k / 2, k % 2, 0), meet.form(e, k / 2, k % 2, 1),
                    forms[e][k], 1);
            }
        }
    }

    private static void formZeroWhereTheQueryIsZero() {
        CHECK.about("FORM 0 where h is 0: h to the 0 is 1");
        ConicMeet meet = Check.solved(Check.ZERO, Check.p(-2, 0, 0, 0, 0, 1), Y);
        long[] form = {2, 0, 0, 4};
        for (int k = 0; k < 4; k++) {
            fraction("form 0", meet.form(0, k / 2, k % 2, 0), meet.form(0, k / 2, k % 2, 1), form[k], 1);
            fraction("form 1", meet.form(1, k / 2, k % 2, 0), meet.form(1, k / 2, k % 2, 1), 0, 1);
            fraction("form 2", meet.form(2, k / 2, k % 2, 0), meet.form(2, k / 2, k % 2, 1), 0, 1);
            fraction("table 2", meet.table(2, k / 2, k % 2, 0), meet.table(2, k / 2, k % 2, 1), 0, 1);
        }
        int[] ranks = {2, 0, 0};
        for (int e = 0; e < 3; e++) {
            due("rank " + e, meet.rank(e), ranks[e]);
            due("signature " + e, meet.signature(e), ranks[e]);
        }
    }

    private static void squaresWithNegativeFactors() {
        CHECK.about("its SIGNATURE: of all squares into which it falls by rational numbers, those with a positive "
            + "factor less those with a negative one");
        ConicMeet imaginary = Check.solved(X, Check.p(1, 0, 0, 0, 0, 1), Y);
        inertia("2 0 0 -2", imaginary, 0, 2, 0);
        inertia("0 -2 -2 0, nothing on the diagonal", imaginary, 1, 2, 0);
        inertia("-2 0 0 2", imaginary, 2, 2, 0);
        ConicMeet below = Check.solved(Check.p(-1, 0, 0, 0, 0, 0), Check.p(-2, 0, 0, 0, 0, 1), Y);
        inertia("2 0 0 4", below, 0, 2, 2);
        inertia("-2 0 0 -4", below, 1, 2, -2);
        inertia("2 0 0 4", below, 2, 2, 2);
        ConicMeet four =
            Check.solved(Check.p(-5, 0, 0, 0, 0, 0), Check.p(-1, 0, 0, 0, 0, 1), Check.p(-1, 0, 0, 1, 0, 0));
        inertia("four below 0", four, 1, 4, -4);
        ConicMeet once = Check.solved(Check.p(-3, 0, 0, 0, 0, 0), XX, YY);
        inertia("a zero four times", once, 0, 1, 1);
        inertia("a zero four times", once, 1, 1, -1);
    }

    private static void inertia(String form, ConicMeet meet, int e, int rank, int signature) {
        due("rank of " + form, meet.rank(e), rank);
        due("signature of " + form, meet.signature(e), signature);
    }

    private static void fractionsInLowestTerms() {
        CHECK.about("Fractions are told in lowest terms: what 0 the numerator, 1 the denominator (positive; of 0: 1)");
        for (int sign = -1; sign <= 1; sign += 2) {
            ConicMeet meet = Check.solved(Check.p(0, 2 * sign, 0, 0, 0, 0), Check.p(2 * sign, 4 * sign, 0, 0, 0, 0), X);
            fraction("y + 1/2", meet.coefficient(0, 0, 0, 0), meet.coefficient(0, 0, 0, 1), 1, 2);
            fraction("y -> -1/2", meet.table(1, 0, 0, 0), meet.table(1, 0, 0, 1), -1, 2);
            fraction("2 y or -2 y -> a whole number", meet.remainder(0, 0), meet.remainder(0, 1), -sign, 1);
            fraction("x -> 0", meet.table(0, 0, 0, 0), meet.table(0, 0, 0, 1), 0, 1);
            fraction("form 1", meet.form(1, 0, 0, 0), meet.form(1, 0, 0, 1), -sign, 1);
            ConicMeet turned = Check.solved(Check.p(0, 0, 3, 0, 0, 0), Check.p(5 * sign, 0, -4 * sign, 0, 0, 0), Y);
            fraction("x - 5/4", turned.coefficient(1, 0, 0, 0), turned.coefficient(1, 0, 0, 1), -5, 4);
            fraction("3 x -> 15/4", turned.remainder(0, 0), turned.remainder(0, 1), 15, 4);
            fraction("form 2", turned.form(2, 0, 0, 0), turned.form(2, 0, 0, 1), 225, 16);
        }
    }

    /** Systems whose forms have entries as near the edge as a long search has found; the edge itself: WholeTest. */
    private static void fractionsBeyondALong() {
        CHECK.about("If one of the two is not -(2^63 - 1) .. 2^63 - 1, both are told as HUGE");
        entry(Check.p(5, 4, 1, 5, -1, 4), 1, 3, 9223259684974853633L, 6863742859888827L,
            Check.p(-4, 5, -4, -3, -3, 3), Check.p(-2, -4, 5, 5, 2, 5));
        entry(Check.p(4, -1, 5, -4, -4, -4), 0, 3, -9223315599484178398L, 1014741853230169L,
            Check.p(3, 4, 5, 3, -1, -3), Check.p(2, -5, 1, 2, -1, 4));
        entry(Check.p(5, 1, 1, 0, 0, -3), 1, 3, -2495033727463262737L, 9120719102724276224L,
            Check.p(-1, 0, 2, -5, -1, 2), Check.p(-3, 0, 1, 3, 0, 4));
        // 9223488070178878161 by 67108864000000
        huge(Check.p(0, -2, 2, -2, 5, 1), 0, 3, Check.p(1, 2, -3, 5, 4, 0), Check.p(5, -4, 2, 5, 3, -4));
        // -9223837851011781440 by 1332456160707781201
        huge(Check.p(0, -5, -2, -3, 0, 4), 0, 3, Check.p(-3, 3, -3, 4, 0, -5), Check.p(3, 4, -5, 5, -4, 3));
        // 4113882747085170521 by 9225388982841511936
        huge(Check.p(-2, -1, 5, -2, 4, 2), 3, 3, Check.p(0, -3, -5, 4, -3, -1), Check.p(1, 2, 0, -3, 0, -5));
        // -78346424268181264 by 9228629864334660025
        huge(Check.p(-2, 0, -4, 0, 1, -5), 3, 3, Check.p(-1, -1, -5, -4, -4, -5), Check.p(-3, 0, -2, -1, 3, -5));
        // 9242284114076518574 by 65360539691525833767
        huge(Check.p(-4, 1, -4, -5, -1, -1), 2, 3, Check.p(3, -5, -2, -5, -4, -3), Check.p(1, -5, 4, 1, -5, 3));
        // 14904286152478350529 and -13303760205700842390, both by 1
        huge(Check.p(0, -4, 0, 4, -5, -3), 3, 3, Check.p(-2, -1, -1, 3, 5, -4), Check.p(1, 2, -3, -1, 0, 5));
        huge(Check.p(-4, 2, -1, -3, 5, 2), 1, 3, Check.p(-2, -1, 2, -1, -4, -4), Check.p(-2, 3, -3, 3, 5, -1));
    }

    private static void huge(int[] query, int i, int j, int[]... system) {
        entry(query, i, j, Long.MIN_VALUE, Long.MIN_VALUE, system);
    }

    private static void entry(int[] query, int i, int j, long over, long under, int[]... system) {
        ConicMeet meet = Check.solved(query, system);
        fraction("form 2", meet.form(2, i, j, 0), meet.form(2, i, j, 1), over, under);
        fraction("form 2 turned", meet.form(2, j, i, 0), meet.form(2, j, i, 1), over, under);
        due("another what", meet.form(2, i, j, 2), -1);
    }

    private static void toldLaterDoesNotChange() {
        CHECK.about("what is told to SYSTEM and QUERY later does not change them");
        int[][][] systems = {{CIRCLE, HYPERBOLA}, {X, Check.p(1, 0, 1, 0, 0, 0)}, {XX, XY}};
        for (int[][] system : systems) {
            ConicMeet meet = Check.solved(X, system);
            String answers = Answers.of(meet);
            meet.term(0, 0, 0, 3);
            meet.term(1, 2, 0, -2);
            meet.query(0, 0, 5);
            meet.query(1, 0, -1);
            meet.start();
            meet.term(2, 0, 1, 1);
            CHECK.due("answers", Answers.of(meet), answers);
        }
    }

    private static void answersAreOfTheLatest() {
        CHECK.about("ANSWERS are of the latest solve()");
        int[][][] systems = {{CIRCLE, HYPERBOLA}, {XX, XY}, {X, Check.p(1, 0, 1, 0, 0, 0)}, {X, Y}, {}, {XX, XY, YY}};
        for (int[][] first : systems) {
            for (int[][] second : systems) {
                ConicMeet meet = Check.solved(YY, first);
                meet.clear();
                for (int[] polynomial : second) {
                    Check.tell(meet, polynomial);
                }
                Check.ask(meet, X);
                meet.solve();
                String alone = Answers.of(Check.solved(X, second));
                CHECK.due("answers", Answers.of(meet).replace("worked 2", "worked 1"), alone);
            }
        }
    }

    private static void untoldAheadOfAny() {
        CHECK.about("They are UNTOLD ahead of any");
        untold(new ConicMeet());
        untold(Check.told(X, CIRCLE, HYPERBOLA));
        untold(Check.told(X, Check.p(3, 0, 0, 0, 0, 0)));
        ConicMeet cleared = Check.told(X, CIRCLE, HYPERBOLA);
        cleared.clear();
        untold(cleared);
    }

    private static void untold(ConicMeet meet) {
        due("elements", meet.elements(), -1);
        for (int k = -1; k < 3; k++) {
            due("lead", meet.lead(k), -1);
            due("coefficient", meet.coefficient(k, 0, 0, 0), -1);
            due("coefficient", meet.coefficient(k, 0, 0, 1), -1);
            due("coefficient beyond", meet.coefficient(k, -1, 9, 0), -1);
            due("coefficient beyond", meet.coefficient(k, -1, 9, 1), -1);
        }
        due("member", meet.member(), -1);
        due("worked", meet.count(1), 0);
        due("answered", meet.count(2), -1);
        notFinite(meet);
    }

    private static void notFinite(ConicMeet meet) {
        due("complex", meet.complex(), -1);
        for (int sign = -1; sign <= 2; sign++) {
            due("real", meet.real(sign), -1);
        }
        due("standard", meet.standard(), -1);
        for (int k = 0; k < 3; k++) {
            int e = k;
            due("monomial", meet.monomial(k), -1);
            due("table", meet.table(k, 0, 0, 0), -1);
            due("table", meet.table(k, 0, 0, 1), -1);
            due("form", meet.form(k, 0, 0, 0), -1);
            due("form", meet.form(k, 0, 0, 1), -1);
            due("rank", meet.rank(k), -1);
            due("remainder", meet.remainder(k, 0), -1);
            due("remainder", meet.remainder(k, 1), -1);
            CHECK.thrown("signature " + k, EARLY, () -> meet.signature(e));
        }
    }

    private static void finiteAlsoWithInfinitelyMany() {
        CHECK.about("where it says 'finite', also with infinitely many ZEROS");
        int[][][] systems = {{}, {Check.ZERO}, {CIRCLE}, {X}, {XX, XY}, {XY, YY}, {CIRCLE, CIRCLE, Check.ZERO, CIRCLE}};
        for (int[][] system : systems) {
            ConicMeet meet = Check.told(X, system);
            due("solve", meet.solve(), 2);
            notFinite(meet);
        }
        CHECK.about("(what does not say 'finite' is told with infinitely many ZEROS)");
        ConicMeet meet = Check.solved(Check.p(0, 0, 0, 0, -4, 5), XX, XY);
        due("elements", meet.elements(), 2);
        due("lead 0", meet.lead(0), 17);
        due("lead 1", meet.lead(1), 32);
        fraction("xx", meet.coefficient(1, 2, 0, 0), meet.coefficient(1, 2, 0, 1), 1, 1);
        due("member", meet.member(), 1);
        due("answered", meet.count(2), 2);
        CHECK.about("(after infinitely many, finitely many are told again)");
        meet.term(1, 1, 1, -1);
        meet.term(1, 0, 2, 1);
        due("xx and yy", meet.solve(), 1);
        due("complex", meet.complex(), 1);
        due("standard", meet.standard(), 4);
    }

    private static void noStandardMonomialsWithoutZeros() {
        CHECK.about("without ZEROS there are no STANDARD MONOMIALS");
        ConicMeet meet = Check.solved(X, X, Check.p(1, 0, 1, 0, 0, 0));
        due("standard", meet.standard(), 0);
        due("complex", meet.complex(), 0);
        for (int k = 0; k < 3; k++) {
            due("monomial", meet.monomial(k), -1);
            due("remainder", meet.remainder(k, 0), -1);
            due("remainder", meet.remainder(k, 1), -1);
            due("table", meet.table(k, 0, 0, 0), -1);
            due("table", meet.table(k, 0, 0, 1), -1);
            due("form", meet.form(k, 0, 0, 0), -1);
            due("form", meet.form(k, 0, 0, 1), -1);
            due("rank", meet.rank(k), 0);
            due("signature", meet.signature(k), 0);
        }
        for (int sign = -1; sign <= 2; sign++) {
            due("real", meet.real(sign), 0);
        }
    }
}
