/** Promises 7 to 19 (what is asked after solve()): a test for each sentence that names a boundary case. */
public final class AskingTest {
    private static final Check CHECK = new Check();
    private static final Class<?> WRONG = IllegalArgumentException.class;
    private static final Class<?> EARLY = IllegalStateException.class;
    private static final int MAX = Integer.MAX_VALUE;
    private static final int MIN = Integer.MIN_VALUE;
    private static final int[] X = Check.p(0, 0, 1, 0, 0, 0);
    private static final int[] Y = Check.p(0, 1, 0, 0, 0, 0);
    private static final int[] YY = Check.p(0, 0, 0, 1, 0, 0);
    private static final int[] XX = Check.p(0, 0, 0, 0, 0, 1);
    private static final int[] CIRCLE = Check.p(-1, 0, 0, 1, 0, 1);
    private static final int[] LINE = Check.p(0, -1, 1, 0, 0, 0);
    /** xx - 1 and yy - 1: the four corners of a square. */
    private static final int[] XX1 = Check.p(-1, 0, 0, 0, 0, 1);
    private static final int[] YY1 = Check.p(-1, 0, 0, 1, 0, 0);

    public static void main(String[] args) {
        constants();
        complexDifferent();
        realAndWhereTheQueryIs();
        realOthers();
        elementsCounted();
        leadWithout();
        coefficientWithout();
        coefficientOfNoElement();
        coefficientAnotherWhat();
        standardCounted();
        monomialWithout();
        tableNoneSuch();
        tableAnotherWhat();
        formNoneSuch();
        formAnotherWhat();
        rankOthers();
        signatureWrong();
        signatureEarly();
        remainderNoneSuch();
        memberOrNot();
        CHECK.end();
    }

    private static void due(String call, long got, long want) {
        CHECK.due(call, got, want);
    }

    private static void fraction(String call, long over, long under, long wantOver, long wantUnder) {
        due(call + " numerator", over, wantOver);
        due(call + " denominator", under, wantUnder);
    }

    private static ConicMeet circleAndLine() {
        return Check.solved(X, CIRCLE, LINE);
    }

    private static ConicMeet square() {
        return Check.solved(X, XX1, YY1);
    }

    private static ConicMeet without() {
        return Check.solved(X, CIRCLE, Check.p(1, 0, 0, 1, 0, 1));
    }

    private static ConicMeet endless() {
        return Check.solved(X, XX, Check.p(0, 0, 0, 0, 1, 0));
    }

    private static void constants() {
        CHECK.about("NONE = -1: None; UNTOLD");
        due("NONE", ConicMeet.NONE, -1);
        CHECK.about("HUGE = Long.MIN_VALUE: Beyond a long");
        due("HUGE", ConicMeet.HUGE, Long.MIN_VALUE);
    }

    private static void complexDifferent() {
        CHECK.about("7: How many different ZEROS");
        due("four", square().complex(), 4);
        due("two by two", Check.solved(X, CIRCLE, Check.p(1, 0, -2, 0, 0, 1)).complex(), 1);
        due("xx and yy: one, four times", Check.solved(X, XX, YY).complex(), 1);
        due("xx and yy - 1: two, each twice", Check.solved(X, XX, YY1).complex(), 2);
        due("xx + 1 and yy + 1: none is real", Check.solved(X, Check.p(1, 0, 0, 0, 0, 1),
            Check.p(1, 0, 0, 1, 0, 0)).complex(), 4);
        due("yy - x and yyy: three times", Check.solved(X, Check.p(0, 0, -1, 1, 0, 0),
            Check.p(0, 0, 0, 0, 1, 0)).complex(), 1);
        due("it is not the QUERY's", Check.solved(Check.ZERO, XX1, YY1).complex(), 4);
        CHECK.about("7: without ZEROS none; (finite)");
        due("without", without().complex(), 0);
        due("endless", endless().complex(), -1);
        due("ahead of any", new ConicMeet().complex(), -1);
    }

    private static void realAndWhereTheQueryIs() {
        CHECK.about("8: How many of them are real, and h above 0 there (1), at 0 (0), below 0 (-1); 2: all real ones");
        real(square(), 2, 0, 2, 4);
        real(Check.solved(Check.p(0, 1, 1, 0, 0, 0), XX1, YY1), 1, 2, 1, 4);
        real(Check.solved(Check.p(-1, 1, 1, 0, 0, 0), XX1, YY1), 3, 0, 1, 4);
        real(Check.solved(Check.p(5, 0, 0, 0, 0, 0), XX1, YY1), 0, 0, 4, 4);
        real(Check.solved(Check.p(-5, 0, 0, 0, 0, 0), XX1, YY1), 4, 0, 0, 4);
        real(Check.solved(Check.ZERO, XX1, YY1), 0, 4, 0, 4);
        real(Check.solved(Check.p(-1, 0, 0, 0, 0, 1), XX1, YY1), 0, 4, 0, 4);
        CHECK.about("8: a zero that comes more than once counts once");
        real(Check.solved(Check.p(-1, 0, 0, 0, 0, 0), XX, YY), 1, 0, 0, 1);
        real(Check.solved(X, XX, YY), 0, 1, 0, 1);
        real(Check.solved(Y, XX, YY1), 1, 0, 1, 2);
        CHECK.about("8: those that are not real do not count");
        real(Check.solved(X, Check.p(1, 0, 0, 0, 0, 1), YY1), 0, 0, 0, 0);
        real(Check.solved(X, Check.p(-4, 0, 0, 1, 0, 1), Check.p(-3, 0, 0, 0, 0, 1)), 2, 0, 2, 4);
        real(Check.solved(X, Check.p(-3, 0, 0, 1, 0, 1), Check.p(-4, 0, 0, 0, 0, 1)), 0, 0, 0, 0);
        real(Check.solved(XX, Check.p(0, -1, 0, 0, 0, 1), YY1), 0, 0, 2, 2);
        real(Check.solved(XX, Check.p(0, -1, 0, 0, 0, 1), Check.p(0, -1, 0, 1, 0, 0)), 0, 1, 2, 3);
        CHECK.about("8: without ZEROS none; (finite)");
        real(without(), 0, 0, 0, 0);
        real(endless(), -1, -1, -1, -1);
        real(new ConicMeet(), -1, -1, -1, -1);
    }

    private static void real(ConicMeet meet, int below, int at, int above, int all) {
        due("real(-1)", meet.real(-1), below);
        due("real(0)", meet.real(0), at);
        due("real(1)", meet.real(1), above);
        due("real(2)", meet.real(2), all);
    }

    private static void realOthers() {
        CHECK.about("8: NONE for others");
        for (int sign : new int[] {-2, 3, 4, MAX, MIN, 256, -256, 65537}) {
            due("real " + sign, square().real(sign), -1);
            due("real " + sign, without().real(sign), -1);
            due("real " + sign, endless().real(sign), -1);
            due("real " + sign, new ConicMeet().real(sign), -1);
        }
    }

    private static void elementsCounted() {
        CHECK.about("9: How many ELEMENTS the BASIS has");
        due("none", Check.solved(X).elements(), 0);
        due("1 alone", without().elements(), 1);
        due("one", Check.solved(X, CIRCLE).elements(), 1);
        due("one told four times", Check.solved(X, CIRCLE, CIRCLE, CIRCLE, CIRCLE).elements(), 1);
        due("two", endless().elements(), 2);
        due("two", square().elements(), 2);
        due("three", Check.solved(X, XX, YY, Check.p(0, 0, 0, 0, 1, 0)).elements(), 3);
        due("ahead of any", new ConicMeet().elements(), -1);
    }

    private static void leadWithout() {
        CHECK.about("10: The LEAD of ELEMENT k. NONE without");
        ConicMeet[] meets = {Check.solved(X), without(), endless(), square(), circleAndLine()};
        int[][] leads = {{}, {0}, {17, 32}, {2, 32}, {16, 2}};
        for (int m = 0; m < meets.length; m++) {
            for (int k = 0; k < leads[m].length; k++) {
                due("lead " + k, meets[m].lead(k), leads[m][k]);
            }
            for (int k : new int[] {-1, leads[m].length, 3, 9, 10, MAX, MIN}) {
                due("lead " + k, meets[m].lead(k), -1);
            }
        }
        due("ahead of any", new ConicMeet().lead(0), -1);
    }

    private static void coefficientWithout() {
        CHECK.about("11: The coefficient of x^a y^b in ELEMENT k. 0 by 1 without");
        ConicMeet meet = circleAndLine();
        fraction("yy of yy - 1/2", meet.coefficient(1, 0, 2, 0), meet.coefficient(1, 0, 2, 1), 1, 1);
        fraction("1 of yy - 1/2", meet.coefficient(1, 0, 0, 0), meet.coefficient(1, 0, 0, 1), -1, 2);
        fraction("y of x - y", meet.coefficient(0, 0, 1, 0), meet.coefficient(0, 0, 1, 1), -1, 1);
        int[] powers = {1, 0, 0, 1, 1, 1, 2, 0, 3, 0, 0, 3, 2, 1, 1, 2, -1, 0, 0, -1, -1, -1, -1, 3, 3, -1, 4, 0,
            0, 4, 2, 2, 3, 1, -1, 4, MAX, MAX, MIN, MIN, MAX, 0, 0, MAX, MIN, 0, 0, MIN, MAX, 1, 1, MAX, MIN, MAX,
            1 << 30, 1 << 30,
            65536, 65536, 16, 0, 0, 16};
        for (int i = 0; i < powers.length; i += 2) {
            int a = powers[i];
            int b = powers[i + 1];
            fraction(a + " " + b + " of yy - 1/2", meet.coefficient(1, a, b, 0), meet.coefficient(1, a, b, 1), 0, 1);
        }
    }

    private static void coefficientOfNoElement() {
        CHECK.about("11: 0 by 1 without (no such ELEMENT, too)");
        ConicMeet[] meets = {Check.solved(X), without(), endless(), square(), circleAndLine()};
        for (ConicMeet meet : meets) {
            for (int k : new int[] {-1, meet.elements(), 3, 9, 10, MAX, MIN}) {
                fraction("1 of " + k, meet.coefficient(k, 0, 0, 0), meet.coefficient(k, 0, 0, 1), 0, 1);
                fraction("xx of " + k, meet.coefficient(k, 2, 0, 0), meet.coefficient(k, 2, 0, 1), 0, 1);
                fraction("no monomial of " + k, meet.coefficient(k, -1, 5, 0), meet.coefficient(k, -1, 5, 1), 0, 1);
            }
        }
    }

    private static final int[] WHATS = {-1, 2, 3, MAX, MIN, 256};

    private static void coefficientAnotherWhat() {
        CHECK.about("11: NONE: UNTOLD, or another what");
        for (int what : WHATS) {
            due("what " + what, circleAndLine().coefficient(1, 0, 0, what), -1);
            due("what " + what + " without", circleAndLine().coefficient(1, 3, 3, what), -1);
            due("what " + what + " of no element", circleAndLine().coefficient(2, 0, 0, what), -1);
            due("what " + what + " with infinitely many", endless().coefficient(0, 0, 0, what), -1);
            due("what " + what + " ahead of any", new ConicMeet().coefficient(0, 0, 0, what), -1);
        }
        due("ahead of any", new ConicMeet().coefficient(0, 0, 0, 0), -1);
        due("ahead of any", new ConicMeet().coefficient(0, 0, 0, 1), -1);
    }

    private static void standardCounted() {
        CHECK.about("12: How many STANDARD MONOMIALS. (finite)");
        due("none", without().standard(), 0);
        due("one", Check.solved(X, X, Y).standard(), 1);
        due("two", circleAndLine().standard(), 2);
        due("three", Check.solved(X, XX, YY, Check.p(0, 0, 0, 0, 1, 0)).standard(), 3);
        due("four", square().standard(), 4);
        due("endless", endless().standard(), -1);
        due("ahead of any", new ConicMeet().standard(), -1);
    }

    private static void monomialWithout() {
        CHECK.about("13: The i-th STANDARD MONOMIAL. NONE without. (finite)");
        ConicMeet[] meets = {without(), Check.solved(X, X, Y), circleAndLine(), square(), endless(), new ConicMeet()};
        int[][] standard = {{}, {0}, {0, 1}, {0, 1, 16, 17}, {}, {}};
        for (int m = 0; m < meets.length; m++) {
            for (int i = 0; i < standard[m].length; i++) {
                due("monomial " + i, meets[m].monomial(i), standard[m][i]);
            }
            for (int i : new int[] {-1, standard[m].length, 4, 5, MAX, MIN}) {
                due("monomial " + i, meets[m].monomial(i), -1);
            }
        }
        CHECK.about("13: those of a larger SYSTEM ahead are gone");
        ConicMeet meet = square();
        meet.term(0, 2, 0, -1);
        meet.term(0, 0, 0, 1);
        meet.term(0, 1, 0, 1);
        due("x and yy - 1", meet.solve(), 1);
        due("monomial 1", meet.monomial(1), 1);
        due("monomial 2", meet.monomial(2), -1);
        due("table 0 2 2", meet.table(0, 2, 2, 0), -1);
        due("form 0 2 2", meet.form(0, 2, 2, 0), -1);
        due("remainder 2", meet.remainder(2, 0), -1);
    }

    private static final int[] BEYOND = {-1, 2, 3, 4, MAX, MIN, 1 << 30, -4};

    private static void tableNoneSuch() {
        CHECK.about("14: NONE: there is none such");
        ConicMeet meet = circleAndLine();
        for (int what = 0; what < 2; what++) {
            for (int k : BEYOND) {
                for (int other = 0; other < 2; other++) {
                    due("row " + k, meet.table(other, k, other, what), -1);
                    due("column " + k, meet.table(other, other, k, what), -1);
                }
                due("row and column " + k, meet.table(0, k, -k, what), -1);
                due("of " + k, k == 2 ? -1 : meet.table(k, 0, 0, what), -1);
            }
        }
        fraction("of h", meet.table(2, 1, 0, 0), meet.table(2, 1, 0, 1), 1, 1);
        fraction("of y", meet.table(1, 0, 1, 0), meet.table(1, 0, 1, 1), 1, 2);
        CHECK.about("14: UNTOLD (finite)");
        due("without", without().table(0, 0, 0, 0), -1);
        due("endless", endless().table(0, 0, 0, 0), -1);
        due("ahead of any", new ConicMeet().table(0, 0, 0, 0), -1);
    }

    private static void tableAnotherWhat() {
        CHECK.about("14: NONE: another what");
        ConicMeet meet = circleAndLine();
        for (int what : WHATS) {
            for (int of = 0; of < 3; of++) {
                due("what " + what, meet.table(of, 0, 0, what), -1);
                due("what " + what, meet.table(of, 1, 0, what), -1);
            }
        }
    }

    private static void formNoneSuch() {
        CHECK.about("15: NONE likewise: there is none such");
        ConicMeet meet = circleAndLine();
        for (int what = 0; what < 2; what++) {
            for (int k : BEYOND) {
                for (int other = 0; other < 2; other++) {
                    due("row " + k, meet.form(other, k, other, what), -1);
                    due("column " + k, meet.form(other, other, k, what), -1);
                }
                due("row and column " + k, meet.form(0, k, -k, what), -1);
                due("FORM " + k, k == 2 ? -1 : meet.form(k, 0, 0, what), -1);
            }
        }
        fraction("FORM 2", meet.form(2, 1, 1, 0), meet.form(2, 1, 1, 1), 1, 2);
        CHECK.about("15: NONE likewise: UNTOLD (finite)");
        due("without", without().form(0, 0, 0, 0), -1);
        due("endless", endless().form(0, 0, 0, 0), -1);
        due("ahead of any", new ConicMeet().form(0, 0, 0, 0), -1);
    }

    private static void formAnotherWhat() {
        CHECK.about("15: NONE likewise: another what");
        ConicMeet meet = circleAndLine();
        for (int what : WHATS) {
            for (int e = 0; e < 3; e++) {
                due("what " + what, meet.form(e, 0, 0, what), -1);
                due("what " + what, meet.form(e, 1, 1, what), -1);
            }
        }
    }

    private static void rankOthers() {
        CHECK.about("16: The RANK of FORM e");
        int[] ranks = {4, 2, 2};
        ConicMeet corners = Check.solved(Check.p(0, 1, 1, 0, 0, 0), XX1, YY1);
        for (int e = 0; e < 3; e++) {
            due("rank " + e, corners.rank(e), ranks[e]);
            due("rank " + e, Check.solved(Check.p(2, 0, 0, 0, 0, 0), XX, YY).rank(e), 1);
            due("rank " + e, Check.solved(Check.ZERO, XX, YY).rank(e), e == 0 ? 1 : 0);
        }
        CHECK.about("16: NONE for others. (finite)");
        for (int e : new int[] {-1, 3, 4, MAX, MIN, 256}) {
            due("rank " + e, corners.rank(e), -1);
            due("rank " + e, without().rank(e), -1);
            due("rank " + e, endless().rank(e), -1);
            due("rank " + e, new ConicMeet().rank(e), -1);
        }
        for (int e = 0; e < 3; e++) {
            due("without", without().rank(e), 0);
            due("endless", endless().rank(e), -1);
            due("ahead of any", new ConicMeet().rank(e), -1);
        }
    }

    private static void signatureWrong() {
        CHECK.about("17: The SIGNATURE of FORM e");
        int[] signatures = {4, 0, 2};
        ConicMeet corners = Check.solved(Check.p(0, 1, 1, 0, 0, 0), XX1, YY1);
        for (int e = 0; e < 3; e++) {
            due("signature " + e, corners.signature(e), signatures[e]);
            due("without", without().signature(e), 0);
        }
        CHECK.about("17: IllegalArgumentException: e is not 0 .. 2");
        for (int e : new int[] {-1, 3, 4, MAX, MIN, 256}) {
            ConicMeet early = Check.told(X, XX, YY);
            for (ConicMeet meet : new ConicMeet[] {corners, without(), endless(), new ConicMeet(), early}) {
                CHECK.thrown("signature " + e, WRONG, () -> meet.signature(e));
            }
        }
    }

    private static void signatureEarly() {
        CHECK.about("17: IllegalStateException: UNTOLD, or infinitely many ZEROS");
        for (int k = 0; k < 3; k++) {
            int e = k;
            CHECK.thrown("ahead of any", EARLY, () -> new ConicMeet().signature(e));
            CHECK.thrown("ahead of any", EARLY, () -> Check.told(X, XX, YY).signature(e));
            CHECK.thrown("endless", EARLY, () -> endless().signature(e));
            CHECK.thrown("an empty system", EARLY, () -> Check.solved(X).signature(e));
        }
    }

    private static void remainderNoneSuch() {
        CHECK.about("18: The coefficient of b_i in the REMAINDER of the QUERY");
        ConicMeet meet = Check.solved(Check.p(1, 0, -2, 3, 0, 0), CIRCLE, LINE);
        fraction("1", meet.remainder(0, 0), meet.remainder(0, 1), 5, 2);
        fraction("y", meet.remainder(1, 0), meet.remainder(1, 1), -2, 1);
        ConicMeet line = Check.solved(LINE, CIRCLE, LINE);
        fraction("x - y leaves 0", line.remainder(0, 0), line.remainder(0, 1), 0, 1);
        fraction("x - y leaves 0", line.remainder(1, 0), line.remainder(1, 1), 0, 1);
        CHECK.about("18: NONE likewise: there is none such");
        for (int i : BEYOND) {
            due("remainder " + i, meet.remainder(i, 0), -1);
            due("remainder " + i, meet.remainder(i, 1), -1);
        }
        CHECK.about("18: NONE likewise: another what");
        for (int what : WHATS) {
            due("what " + what, meet.remainder(0, what), -1);
            due("what " + what, meet.remainder(1, what), -1);
        }
        CHECK.about("18: NONE likewise: UNTOLD (finite)");
        due("without", without().remainder(0, 0), -1);
        due("endless", endless().remainder(0, 0), -1);
        due("ahead of any", new ConicMeet().remainder(0, 0), -1);
    }

    private static void memberOrNot() {
        CHECK.about("19: Whether the QUERY is of the IDEAL (1, 0)");
        due("x - y", Check.solved(LINE, CIRCLE, LINE).member(), 1);
        due("-5 x + 5 y", Check.solved(Check.p(0, 5, -5, 0, 0, 0), CIRCLE, LINE).member(), 1);
        due("x", circleAndLine().member(), 0);
        due("the circle and x times the line", Check.solved(Check.p(-1, 0, 0, 1, -1, 2), CIRCLE, LINE).member(), 1);
        due("of half the circle: 2 yy - 1", Check.solved(Check.p(-1, 0, 0, 2, 0, 0), CIRCLE, LINE).member(), 1);
        due("0 where all ZEROS are, but not of the IDEAL", Check.solved(X, XX, YY).member(), 0);
        due("without ZEROS", without().member(), 1);
        due("x of xx, xy", endless().member(), 0);
        due("xx + xy of xx, xy", Check.solved(Check.p(0, 0, 0, 0, 1, 1), XX, Check.p(0, 0, 0, 0, 1, 0)).member(), 1);
        due("0 of nothing", Check.solved(Check.ZERO).member(), 1);
        due("1 of nothing", Check.solved(Check.p(1, 0, 0, 0, 0, 0)).member(), 0);
        CHECK.about("19: UNTOLD: NONE");
        due("ahead of any", new ConicMeet().member(), -1);
        due("ahead of any", Check.told(Check.ZERO, X).member(), -1);
    }
}
