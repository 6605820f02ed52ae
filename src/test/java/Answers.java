/** All ANSWERS in one text, some 160 calls: what an object answers after its 512th call is free. */
final class Answers {
    private Answers() {
    }

    static String of(ConicMeet meet) {
        StringBuilder s = new StringBuilder();
        put(s, "complex", meet.complex());
        for (int sign = -2; sign <= 3; sign++) {
            put(s, "real", meet.real(sign));
        }
        put(s, "elements", meet.elements());
        for (int k = -1; k < 4; k++) {
            put(s, "lead", meet.lead(k));
        }
        for (int k = 0; k < 3; k++) {
            for (int a = 0; a < 4; a++) {
                for (int b = 0; b < 4 - a; b++) {
                    put(s, "c" + k + a + b, meet.coefficient(k, a, b, 0));
                    put(s, "by", meet.coefficient(k, a, b, 1));
                }
            }
        }
        put(s, "standard", meet.standard());
        for (int i = -1; i < 5; i++) {
            put(s, "monomial", meet.monomial(i));
        }
        for (int k = 0; k < 3; k++) {
            squares(s, meet, k);
        }
        for (int i = 0; i < 4; i++) {
            put(s, "remainder", meet.remainder(i, 0));
            put(s, "by", meet.remainder(i, 1));
        }
        put(s, "member", meet.member());
        put(s, "worked", meet.count(1));
        put(s, "answered", meet.count(2));
        return s.toString();
    }

    private static void squares(StringBuilder s, ConicMeet meet, int k) {
        int[] places = {0, 0, 0, 1, 1, 0, 2, 2, 3, 3};
        for (int at = 0; at < places.length; at += 2) {
            for (int what = 0; what < 2; what++) {
                put(s, "table", meet.table(k, places[at], places[at + 1], what));
                put(s, "form", meet.form(k, places[at], places[at + 1], what));
            }
        }
        put(s, "rank", meet.rank(k));
        s.append("signature ").append(signature(meet, k)).append(' ');
    }

    private static String signature(ConicMeet meet, int e) {
        try {
            return "" + meet.signature(e);
        } catch (RuntimeException x) {
            return x.getClass().getSimpleName();
        }
    }

    private static void put(StringBuilder s, String name, long value) {
        s.append(name).append(' ').append(value).append(' ');
    }
}
