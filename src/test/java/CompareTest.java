/** Promises 16, 17 and 18: order, same, less. */
public final class CompareTest {
    private static final Check CHECK = new Check("CompareTest");
    /** In THE ORDER, the least first. */
    private static final String[] SORTED = {
        "_:A", "_:Aa", "_:_", "_:a", "_:ab", "_:b",
        "<!>", "<a>", "<a!>", "<aa>", "<b>",
        "-999999999999999999", "-99999999999999999.9", "-999999999.999999999", "-10", "-2.5", "-2.4999", "-1", "-1.0",
        "-0.5", "-0.000000001", "0", "0.0", "0.000000001", "0.1", "0.109", "0.5", "0.75", "1", "1.0", "1.000000001", "9", "9.5", "10",
        "999999999", "999999999.999999999", "1000000000", "99999999999999999.9", "100000000000000000",
        "999999999999999999",
        "\"\"", "\"\\t\"", "\"\\n\"", "\"\\r\"", "\" \"", "\"\\\"\"", "\"A\"", "\"\\\\\"", "\"a\"", "\"a\\n\"", "\"aa\"",
        "\"b\"",
        "\"\"@b", "\"a\"@a", "\"a\"@a-a", "\"a\"@aa", "\"a\"@b", "\"aa\"@a", "\"b\"@a",
        "\"\"^^<z>", "\"a\"^^<A>", "\"a\"^^<a>", "\"a\"^^<aa>", "\"ab\"^^<a>",
        "false", "true"};

    public static void main(String[] args) {
        everyPair();
        numbersPastReading();
        none();
        CHECK.end();
    }

    private static void everyPair() {
        int n = SORTED.length;
        for (int a = 0; a < n; a++) {
            // A table for each row keeps to the 512 calls of the document.
            TermTable x = new TermTable();
            int one = Check.read(x, SORTED[a]);
            for (int b = 0; b < n; b++) {
                int other = Check.read(x, SORTED[b]);
                String pair = "(" + SORTED[a] + ", " + SORTED[b] + ")";
                CHECK.due("order" + pair, x.order(one, other), Integer.compare(a, b));
                CHECK.due("same" + pair, x.same(one, other), same(SORTED[a], SORTED[b]));
                CHECK.due("less" + pair, x.less(one, other), less(a, b));
            }
        }
    }

    private static char sortOf(String term) {
        char first = term.charAt(0);
        if (first == '_' || first == '<' || first == 't' || first == 'f') {
            return first == 'f' ? 't' : first;
        }
        if (first != '"') {
            return '#';
        }
        return term.endsWith("\"") ? '"' : term.endsWith(">") ? '^' : '@';
    }

    private static int same(String a, String b) {
        char one = sortOf(a);
        char other = sortOf(b);
        if (one != other) {
            boolean strange = one == '^' && "#\"@t".indexOf(other) >= 0 || other == '^' && "#\"@t".indexOf(one) >= 0;
            return strange ? 2 : 0;
        }
        if (one == '#') {
            return new java.math.BigDecimal(a).compareTo(new java.math.BigDecimal(b)) == 0 ? 1 : 0;
        }
        return a.equals(b) ? 1 : one == '^' ? 2 : 0;
    }

    private static int less(int a, int b) {
        char sort = sortOf(SORTED[a]);
        if (sort != sortOf(SORTED[b]) || "#\"t".indexOf(sort) < 0) {
            return 2;
        }
        return a < b && same(SORTED[a], SORTED[b]) == 0 ? 1 : 0;
    }

    private static void numbersPastReading() {
        TermTable x = new TermTable();
        int most = x.decimal(999999999999999999L, 0);
        int whole = x.whole(999999999999999999L);
        int next = x.whole(999999999999999998L);
        int least = x.decimal(-999999999999999999L, 0);
        int fine = x.decimal(999999999999999999L, 9);
        CHECK.due("order of whole and decimal", x.order(whole, most), -1);
        CHECK.due("order of decimal and whole", x.order(most, whole), 1);
        CHECK.due("same of whole and decimal", x.same(whole, most), 1);
        CHECK.due("less of whole and decimal", x.less(whole, most), 0);
        CHECK.due("less of the next", x.less(next, most), 1);
        CHECK.due("order of least and most", x.order(least, most), -1);
        CHECK.due("order of fine and most", x.order(fine, most), -1);
        CHECK.due("less of most and fine", x.less(most, fine), 0);
        CHECK.due("same of least and most", x.same(least, most), 0);
    }

    private static void none() {
        TermTable x = new TermTable();
        Check.read(x, "<a>");
        for (int none : new int[] {0, 2, -1, Integer.MIN_VALUE, Integer.MAX_VALUE}) {
            CHECK.due("order(1, " + none + ")", x.order(1, none), 2);
            CHECK.due("order(" + none + ", 1)", x.order(none, 1), 2);
            CHECK.due("order(" + none + ", " + none + ")", x.order(none, none), 2);
            CHECK.due("same(1, " + none + ")", x.same(1, none), 2);
            CHECK.due("same(" + none + ", 1)", x.same(none, 1), 2);
            CHECK.due("same(" + none + ", " + none + ")", x.same(none, none), 2);
            CHECK.due("less(1, " + none + ")", x.less(1, none), 2);
            CHECK.due("less(" + none + ", 1)", x.less(none, 1), 2);
            CHECK.due("less(" + none + ", " + none + ")", x.less(none, none), 2);
        }
    }
}
