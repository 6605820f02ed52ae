/** Each promise in its turn: ordinary calls, the edges that the document names, and wrong arguments. */
public final class PromisesTest {
    private static final Check CHECK = new Check();
    private static final Class<?> BEYOND = IndexOutOfBoundsException.class;
    private static final Class<?> WRONG = IllegalArgumentException.class;
    private static final Class<?> EARLY = IllegalStateException.class;
    private static final int MAX = Integer.MAX_VALUE;
    private static final int MIN = Integer.MIN_VALUE;

    public static void main(String[] args) {
        constants();
        promise1();
        promise2();
        promise3();
        promises4And5();
        promise6();
        limitOfPromise6();
        promises7And8();
        promises9To11();
        hugeFractions();
        promises12And13();
        promises14And15();
        promises16And17();
        promises18And19();
        promises20And21();
        answersStay();
        CHECK.end();
    }

    private static void due(String call, long got, long want) {
        CHECK.due(call, got, want);
    }

    /** A circle of radius 1 and the line x = y, asked for x. */
    private static ConicMeet circleAndLine() {
        ConicMeet meet = new ConicMeet();
        Check.tell(meet, -1, 0, 0, 1, 0, 1);
        Check.tell(meet, 0, -1, 1, 0, 0, 0);
        Check.ask(meet, 0, 0, 1, 0, 0, 0);
        due("solve of circle and line", meet.solve(), 1);
        return meet;
    }

    private static ConicMeet without() {
        ConicMeet meet = new ConicMeet();
        Check.tell(meet, 1, 0, 0, 1, 0, 1);
        Check.tell(meet, -1, 0, 0, 1, 0, 1);
        due("solve of two circles round one point", meet.solve(), 0);
        return meet;
    }

    private static ConicMeet endless() {
        ConicMeet meet = new ConicMeet();
        Check.tell(meet, 0, 0, 0, 0, 1, 0);
        Check.tell(meet, 0, 0, 0, 0, 0, 1);
        Check.ask(meet, 0, 0, 1, 0, 0, 0);
        due("solve of xy and xx", meet.solve(), 2);
        return meet;
    }

    private static void constants() {
        due("NONE", ConicMeet.NONE, -1);
        due("HUGE", ConicMeet.HUGE, Long.MIN_VALUE);
    }

    private static void untold(ConicMeet meet) {
        due("untold complex", meet.complex(), -1);
        for (int sign = -2; sign <= 3; sign++) {
            due("untold real", meet.real(sign), -1);
        }
        due("untold elements", meet.elements(), -1);
        due("untold lead", meet.lead(0), -1);
        due("untold coefficient", meet.coefficient(0, 0, 0, 0), -1);
        due("untold coefficient", meet.coefficient(0, 0, 0, 1), -1);
        due("untold coefficient", meet.coefficient(9, -1, 9, 1), -1);
        due("untold standard", meet.standard(), -1);
        due("untold monomial", meet.monomial(0), -1);
        for (int k = -1; k <= 3; k++) {
            due("untold table", meet.table(k, 0, 0, 0), -1);
            due("untold form", meet.form(k, 0, 0, 0), -1);
            due("untold rank", meet.rank(k), -1);
        }
        due("untold remainder", meet.remainder(0, 0), -1);
        due("untold member", meet.member(), -1);
        due("untold count(1)", meet.count(1), 0);
        due("untold count(2)", meet.count(2), -1);
        for (int e = 0; e < 3; e++) {
            int form = e;
            CHECK.thrown("untold signature " + e, EARLY, () -> meet.signature(form));
        }
        CHECK.thrown("untold signature -1", WRONG, () -> meet.signature(-1));
        CHECK.thrown("untold signature 3", WRONG, () -> meet.signature(3));
    }

    private static void promise1() {
        ConicMeet meet = new ConicMeet();
        due("new count(0)", meet.count(0), 0);
        for (int k = -1; k < 4; k++) {
            for (int i = 0; i < 6; i++) {
                due("new at", meet.at(k, Check.A[i], Check.B[i]), 0);
            }
        }
        untold(meet);
        Check.tell(meet, 1, 2, 3, 4, 5, -5);
        Check.ask(meet, 1, 1, 1, 1, 1, 1);
        untold(meet);
        due("a second object is its own", new ConicMeet().count(0), 0);
    }

    private static void promise2() {
        ConicMeet meet = circleAndLine();
        meet.clear();
        due("cleared count(0)", meet.count(0), 0);
        due("cleared at", meet.at(0, 2, 0), 0);
        due("cleared query", meet.at(-1, 1, 0), 0);
        due("cleared complex", meet.complex(), 2);
        due("cleared count(1)", meet.count(1), 1);
        due("cleared count(2)", meet.count(2), 1);
        CHECK.thrown("cleared term", BEYOND, () -> meet.term(0, 0, 0, 1));
        due("cleared start", meet.start(), 0);
        for (int i = 0; i < 6; i++) {
            due("started again at", meet.at(0, Check.A[i], Check.B[i]), 0);
        }
        meet.clear();
        meet.clear();
        due("cleared twice", meet.count(0), 0);
        due("cleared table", meet.table(2, 1, 0, 0), 1);
    }

    private static void promise3() {
        ConicMeet meet = new ConicMeet();
        for (int k = 0; k < 4; k++) {
            due("start", meet.start(), k);
            due("count(0)", meet.count(0), k + 1);
            due("at", meet.at(k, 0, 0), 0);
        }
        due("a fifth start", meet.start(), -1);
        due("a sixth start", meet.start(), -1);
        due("count(0)", meet.count(0), 4);
        due("term of the fourth", meet.term(3, 0, 0, 2), 2);
        CHECK.thrown("term of a fifth", BEYOND, () -> meet.term(4, 0, 0, 2));
    }

    private static void promises4And5() {
        ConicMeet meet = new ConicMeet();
        CHECK.thrown("term ahead of any start", BEYOND, () -> meet.term(0, 0, 0, 1));
        due("start", meet.start(), 0);
        for (int i = 0; i < 6; i++) {
            int a = Check.A[i];
            int b = Check.B[i];
            due("term 5", meet.term(0, a, b, 5), 5);
            CHECK.thrown("term 6", WRONG, () -> meet.term(0, a, b, 1));
            due("term -10", meet.term(0, a, b, -10), -5);
            CHECK.thrown("term -6", WRONG, () -> meet.term(0, a, b, -1));
            due("term + 0", meet.term(0, a, b, 0), -5);
            due("term + i", meet.term(0, a, b, i), i - 5);
            due("at", meet.at(0, a, b), i - 5);
            due("the query is another", meet.at(-1, a, b), 0);
            due("query 5", meet.query(a, b, 5), 5);
            CHECK.thrown("query 6", WRONG, () -> meet.query(a, b, 1));
            due("query -10", meet.query(a, b, -10), -5);
            CHECK.thrown("query -6", WRONG, () -> meet.query(a, b, -1));
            due("query + i", meet.query(a, b, i), i - 5);
            due("at", meet.at(-1, a, b), i - 5);
        }
        wrongPowers(meet);
        for (int i = 0; i < 6; i++) {
            due("nothing has changed", meet.at(0, Check.A[i], Check.B[i]), i - 5);
            due("nothing has changed", meet.at(-1, Check.A[i], Check.B[i]), i - 5);
        }
    }

    private static void wrongPowers(ConicMeet meet) {
        int[] wrong = {-1, 0, 0, -1, 3, 0, 0, 3, 2, 1, 1, 2, 2, 2, MAX, MAX, MIN, MIN, MAX, 1, 1, MAX, MIN, MAX, MAX, MIN,
            -1, 1, 1, -1, -1, 3, 1 << 30, 1 << 30, MIN, 0, MAX, 0, 65536, 65536};
        for (int i = 0; i < wrong.length; i += 2) {
            int a = wrong[i];
            int b = wrong[i + 1];
            CHECK.thrown("term " + a + " " + b, WRONG, () -> meet.term(0, a, b, 0));
            CHECK.thrown("query " + a + " " + b, WRONG, () -> meet.query(a, b, 0));
            CHECK.thrown("term of none " + a + " " + b, BEYOND, () -> meet.term(1, a, b, 0));
            due("at " + a + " " + b, meet.at(0, a, b), 0);
            due("at " + a + " " + b, meet.at(-1, a, b), 0);
        }
        for (int c : new int[] {MAX, MIN, MIN + 5, MAX - 5, 11, -11, 1 << 30}) {
            CHECK.thrown("term c " + c, WRONG, () -> meet.term(0, 0, 0, c));
            CHECK.thrown("query c " + c, WRONG, () -> meet.query(0, 0, c));
        }
        for (int k : new int[] {-1, 1, 4, MAX, MIN, -2}) {
            CHECK.thrown("term of " + k, BEYOND, () -> meet.term(k, 0, 0, 0));
            CHECK.thrown("term of " + k, BEYOND, () -> meet.term(k, 0, 0, MAX));
        }
    }

    private static void promise6() {
        ConicMeet meet = new ConicMeet();
        due("empty", meet.solve(), 2);
        due("worked", meet.count(1), 1);
        due("empty again", meet.solve(), 2);
        due("not worked", meet.count(1), 1);
        meet.start();
        due("one polynomial 0", meet.solve(), 2);
        due("another system is worked", meet.count(1), 2);
        due("no element", meet.elements(), 0);
        meet.term(0, 0, 0, 3);
        due("3", meet.solve(), 0);
        due("worked", meet.count(1), 3);
        meet.query(0, 0, 1);
        due("another query is worked", meet.solve(), 0);
        due("worked", meet.count(1), 4);
        meet.query(0, 0, 2);
        meet.query(0, 0, -2);
        due("told back and forth", meet.solve(), 0);
        due("not worked", meet.count(1), 4);
        meet.clear();
        Check.tell(meet, 3, 0, 0, 0, 0, 0);
        meet.query(0, 0, 1);
        due("the same told anew", meet.solve(), 0);
        due("not worked", meet.count(1), 4);
        meet.start();
        due("a 0 more is another system", meet.solve(), 0);
        due("worked", meet.count(1), 5);
        meet.clear();
        Check.tell(meet, 0, 0, 0, 0, 0, 0);
        Check.tell(meet, 3, 0, 0, 0, 0, 0);
        meet.query(0, 0, 1);
        due("so is another order", meet.solve(), 0);
        due("worked", meet.count(1), 6);
    }

    private static void limitOfPromise6() {
        ConicMeet meet = new ConicMeet();
        Check.tell(meet, -1, 0, 0, 1, 0, 1);
        Check.tell(meet, 0, -1, 1, 0, 0, 0);
        for (int k = 0; k < 40; k++) {
            int next = k % 2 == 0 ? 1 : -1;
            meet.query(0, 0, next);
            due("solve " + k, meet.solve(), 1);
            due("solve " + k + " again", meet.solve(), 1);
            due("worked", meet.count(1), k + 1);
        }
        due("h is 0", meet.member(), 1);
        meet.query(1, 0, 2);
        due("the 41st", meet.solve(), -1);
        due("the 41st again", meet.solve(), -1);
        due("worked", meet.count(1), 40);
        due("answered", meet.count(2), 1);
        due("the answers stay", meet.member(), 1);
        due("the answers stay", meet.complex(), 2);
        meet.query(1, 0, -2);
        due("the one answered", meet.solve(), 1);
        meet.clear();
        due("cleared", meet.solve(), -1);
        due("the answers stay", meet.complex(), 2);
    }

    private static void promises7And8() {
        ConicMeet meet = circleAndLine();
        due("complex", meet.complex(), 2);
        long[] real = {-1, 1, 0, 1, 2, -1};
        for (int sign = -2; sign <= 3; sign++) {
            due("real " + sign, meet.real(sign), real[sign + 2]);
        }
        due("real MAX", meet.real(MAX), -1);
        due("real MIN", meet.real(MIN), -1);
        ConicMeet none = without();
        due("complex without zeros", none.complex(), 0);
        for (int sign = -2; sign <= 3; sign++) {
            due("real without zeros", none.real(sign), sign < -1 || sign > 2 ? -1 : 0);
        }
        ConicMeet all = endless();
        due("complex of endlessly many", all.complex(), -1);
        for (int sign = -2; sign <= 3; sign++) {
            due("real of endlessly many", all.real(sign), -1);
        }
        ConicMeet double0 = new ConicMeet();
        Check.tell(double0, 0, 0, 0, 1, 0, 0);
        Check.tell(double0, 0, 0, 0, 0, 0, 1);
        due("xx and yy", double0.solve(), 1);
        due("one zero, four times", double0.complex(), 1);
        due("one zero, four times", double0.standard(), 4);
        due("h is 0 there", double0.real(0), 1);
        Check.tell(double0, 0, -1, 1, 0, 0, 0);
        Check.ask(double0, -3, 0, 0, 0, 0, 0);
        due("solve", double0.solve(), 1);
        due("h is below 0", double0.real(-1), 1);
    }

    private static void promises9To11() {
        ConicMeet meet = circleAndLine();
        due("elements", meet.elements(), 2);
        due("lead 0", meet.lead(0), 16);
        due("lead 1", meet.lead(1), 2);
        for (int k : new int[] {-1, 2, 3, MAX, MIN}) {
            due("lead " + k, meet.lead(k), -1);
            due("coefficient of " + k, meet.coefficient(k, 0, 0, 0), 0);
            due("coefficient of " + k, meet.coefficient(k, 0, 0, 1), 1);
            due("what 2 of " + k, meet.coefficient(k, 0, 0, 2), -1);
        }
        due("constant", meet.coefficient(1, 0, 0, 0), -1);
        due("constant", meet.coefficient(1, 0, 0, 1), 2);
        due("yy", meet.coefficient(1, 0, 2, 0), 1);
        due("yy", meet.coefficient(1, 0, 2, 1), 1);
        int[] beyond = {-1, 0, 0, -1, 4, 0, 0, 4, 2, 2, MAX, MAX, MIN, MIN, MAX, 1, -1, 3, 3, -1, 65536, 65536};
        for (int i = 0; i < beyond.length; i += 2) {
            due("coefficient beyond", meet.coefficient(1, beyond[i], beyond[i + 1], 0), 0);
            due("coefficient beyond", meet.coefficient(1, beyond[i], beyond[i + 1], 1), 1);
        }
        for (int what : new int[] {-1, 2, MAX, MIN}) {
            due("coefficient what " + what, meet.coefficient(0, 1, 0, what), -1);
        }
        ConicMeet none = without();
        due("elements without zeros", none.elements(), 1);
        due("lead without zeros", none.lead(0), 0);
        due("lead without zeros", none.lead(1), -1);
        due("1 alone", none.coefficient(0, 0, 0, 0), 1);
        due("1 alone", none.coefficient(0, 0, 2, 0), 0);
        ConicMeet all = endless();
        due("elements of endlessly many", all.elements(), 2);
        due("lead 0 of endlessly many", all.lead(0), 17);
        due("lead 1 of endlessly many", all.lead(1), 32);
        due("coefficient of endlessly many", all.coefficient(1, 2, 0, 0), 1);
        cubic();
    }

    /** xx + yy - 5 and xy - 2: the third element has degree 3, it is yyy + 2 x - 5 y. */
    private static void cubic() {
        ConicMeet meet = new ConicMeet();
        Check.tell(meet, -5, 0, 0, 1, 0, 1);
        Check.tell(meet, -4, 0, 0, 0, 2, 0);
        due("solve", meet.solve(), 1);
        due("elements", meet.elements(), 3);
        due("lead 0", meet.lead(0), 17);
        due("lead 1", meet.lead(1), 32);
        due("lead 2", meet.lead(2), 3);
        due("yyy", meet.coefficient(2, 0, 3, 0), 1);
        due("x", meet.coefficient(2, 1, 0, 0), 2);
        due("y", meet.coefficient(2, 0, 1, 0), -5);
        due("constant", meet.coefficient(0, 0, 0, 0), -2);
        due("xyy", meet.coefficient(2, 1, 2, 0), 0);
        due("xyy", meet.coefficient(2, 1, 2, 1), 1);
        due("monomial 3", meet.monomial(3), 2);
        due("four real zeros", meet.real(2), 4);
    }

    private static void hugeFractions() {
        ConicMeet meet = new ConicMeet();
        Check.tell(meet, 4, -5, 5, 5, -4, 5);
        Check.tell(meet, -5, 5, 4, 4, 5, -4);
        Check.ask(meet, 5, -5, 5, 5, -5, 5);
        due("solve", meet.solve(), 1);
        int huge = 0;
        int small = 0;
        for (int i = 0; i < 4; i++) {
            for (int j = 0; j < 4; j++) {
                long over = meet.form(2, i, j, 0);
                long under = meet.form(2, i, j, 1);
                due("both are huge or none", over == ConicMeet.HUGE ? 1 : 0, under == ConicMeet.HUGE ? 1 : 0);
                due("what 2", meet.form(2, i, j, 2), -1);
                huge += over == ConicMeet.HUGE ? 1 : 0;
                small += meet.form(0, i, j, 0) == ConicMeet.HUGE ? 0 : 1;
            }
        }
        due("huge ones", huge > 0 ? 1 : 0, 1);
        due("small ones", small > 0 ? 1 : 0, 1);
    }

    private static void promises12And13() {
        ConicMeet meet = circleAndLine();
        due("standard", meet.standard(), 2);
        due("monomial 0", meet.monomial(0), 0);
        due("monomial 1", meet.monomial(1), 1);
        for (int i : new int[] {-1, 2, 4, MAX, MIN}) {
            due("monomial " + i, meet.monomial(i), -1);
        }
        ConicMeet none = without();
        due("standard without zeros", none.standard(), 0);
        due("monomial without zeros", none.monomial(0), -1);
        ConicMeet all = endless();
        due("standard of endlessly many", all.standard(), -1);
        due("monomial of endlessly many", all.monomial(0), -1);
        ConicMeet four = new ConicMeet();
        Check.tell(four, 0, 1, 0, 0, 0, 1);
        Check.tell(four, 0, 0, -1, 0, 1, 0);
        due("xx + y and xy - x", four.solve(), 1);
        int[] told = {0, 1, 16, -1};
        for (int i = 0; i < 4; i++) {
            due("monomial " + i, four.monomial(i), told[i]);
        }
    }

    private static void promises14And15() {
        ConicMeet meet = circleAndLine();
        long[][] y = {{0, 1, 1, 2}, {1, 1, 0, 1}};
        for (int of = 0; of < 3; of++) {
            for (int i = 0; i < 2; i++) {
                for (int j = 0; j < 2; j++) {
                    due("table " + of + i + j, meet.table(of, i, j, 0), y[i][2 * j]);
                    due("table " + of + i + j, meet.table(of, i, j, 1), y[i][2 * j + 1]);
                }
            }
        }
        long[][] forms = {{2, 1, 0, 1, 1, 1}, {0, 1, 1, 1, 0, 1}, {1, 1, 0, 1, 1, 2}};
        for (int e = 0; e < 3; e++) {
            for (int what = 0; what < 2; what++) {
                due("form " + e, meet.form(e, 0, 0, what), forms[e][what]);
                due("form " + e, meet.form(e, 0, 1, what), forms[e][2 + what]);
                due("form " + e, meet.form(e, 1, 0, what), forms[e][2 + what]);
                due("form " + e, meet.form(e, 1, 1, what), forms[e][4 + what]);
            }
        }
        ConicMeet none = without();
        ConicMeet all = endless();
        for (int k : new int[] {-1, 3, MAX, MIN, 2, 4}) {
            for (int what = 0; what < 2; what++) {
                due("table of none", k == 2 ? -1 : meet.table(k, 0, 0, what), -1);
                due("form of none", k == 2 ? -1 : meet.form(k, 0, 0, what), -1);
                due("table i", meet.table(0, k, 0, what), -1);
                due("table j", meet.table(0, 0, k, what), -1);
                due("form i", meet.form(0, k, 0, what), -1);
                due("form j", meet.form(0, 0, k, what), -1);
                due("without zeros", none.table(0, 0, 0, what), -1);
                due("without zeros", none.form(0, 0, 0, what), -1);
                due("endlessly many", all.table(0, 0, 0, what), -1);
                due("endlessly many", all.form(0, 0, 0, what), -1);
            }
            due("table what", meet.table(0, 0, 0, k), -1);
            due("form what", meet.form(0, 0, 0, k), -1);
        }
    }

    private static void promises16And17() {
        ConicMeet meet = circleAndLine();
        long[] signatures = {2, 0, 2};
        ConicMeet none = without();
        ConicMeet all = endless();
        for (int e = 0; e < 3; e++) {
            int form = e;
            due("rank " + e, meet.rank(e), 2);
            due("signature " + e, meet.signature(e), signatures[e]);
            due("rank without zeros", none.rank(e), 0);
            due("signature without zeros", none.signature(e), 0);
            due("rank of endlessly many", all.rank(e), -1);
            CHECK.thrown("signature of endlessly many", EARLY, () -> all.signature(form));
        }
        for (int e : new int[] {-1, 3, MAX, MIN}) {
            due("rank " + e, meet.rank(e), -1);
            due("rank " + e, none.rank(e), -1);
            CHECK.thrown("signature " + e, WRONG, () -> meet.signature(e));
            CHECK.thrown("signature " + e, WRONG, () -> none.signature(e));
            CHECK.thrown("signature " + e, WRONG, () -> all.signature(e));
        }
    }

    private static void promises18And19() {
        ConicMeet meet = circleAndLine();
        due("remainder 0", meet.remainder(0, 0), 0);
        due("remainder 0", meet.remainder(0, 1), 1);
        due("remainder 1", meet.remainder(1, 0), 1);
        due("remainder 1", meet.remainder(1, 1), 1);
        for (int k : new int[] {-1, 2, 4, MAX, MIN}) {
            due("remainder " + k, meet.remainder(k, 0), -1);
            due("remainder what " + k, meet.remainder(0, k), -1);
        }
        due("member", meet.member(), 0);
        Check.ask(meet, 0, -3, 3, 0, 0, 0);
        due("member stays", meet.member(), 0);
        due("solve", meet.solve(), 1);
        due("member", meet.member(), 1);
        due("remainder of a member", meet.remainder(1, 0), 0);
        Check.ask(meet, 0, 0, 0, 3, 0, 0);
        due("solve", meet.solve(), 1);
        due("remainder of 3 yy", meet.remainder(0, 0), 3);
        due("remainder of 3 yy", meet.remainder(0, 1), 2);
        ConicMeet none = without();
        due("all are members without zeros", none.member(), 1);
        due("remainder without zeros", none.remainder(0, 0), -1);
        none.query(0, 0, 1);
        due("solve", none.solve(), 0);
        due("all are members without zeros", none.member(), 1);
        ConicMeet all = endless();
        due("x is no member", all.member(), 0);
        due("remainder of endlessly many", all.remainder(0, 0), -1);
        Check.ask(all, 0, 0, 0, 0, -4, 5);
        due("solve", all.solve(), 2);
        due("5 xx - 4 xy is a member", all.member(), 1);
        ConicMeet empty = new ConicMeet();
        empty.solve();
        due("0 is a member of 0", empty.member(), 1);
        empty.query(0, 0, 1);
        empty.solve();
        due("1 is no member of 0", empty.member(), 0);
    }

    private static void promises20And21() {
        ConicMeet meet = circleAndLine();
        due("count(0)", meet.count(0), 2);
        due("count(1)", meet.count(1), 1);
        due("count(2)", meet.count(2), 1);
        for (int what : new int[] {-1, 3, MAX, MIN}) {
            due("count " + what, meet.count(what), -1);
        }
        due("at", meet.at(0, 0, 0), -1);
        due("at", meet.at(1, 0, 1), -1);
        due("at", meet.at(-1, 1, 0), 1);
        for (int k : new int[] {-2, 2, 3, 4, MAX, MIN}) {
            due("at " + k, meet.at(k, 0, 0), 0);
            due("at " + k + " is not the query's", meet.at(k, 1, 0), 0);
        }
        due("count(2) without zeros", without().count(2), 0);
        due("count(2) of endlessly many", endless().count(2), 2);
    }

    private static void answersStay() {
        ConicMeet meet = circleAndLine();
        meet.term(0, 2, 0, 3);
        meet.query(1, 0, -1);
        meet.query(0, 0, -5);
        meet.start();
        due("complex stays", meet.complex(), 2);
        due("real stays", meet.real(1), 1);
        due("table stays", meet.table(2, 1, 0, 0), 1);
        due("coefficient stays", meet.coefficient(1, 0, 0, 1), 2);
        due("at is now", meet.at(0, 2, 0), 4);
        due("solve", meet.solve(), 1);
        due("real is new", meet.real(-1), 2);
        due("coefficient is new", meet.coefficient(1, 0, 0, 1), 5);
    }
}
