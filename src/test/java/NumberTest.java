/** Promises 6, 7, 11 and 12: whole, decimal, value, scale. */
public final class NumberTest {
    private static final Check CHECK = new Check("NumberTest");
    private static final long MOST = 999999999999999999L;

    public static void main(String[] args) {
        wholes();
        decimals();
        oneWithTheRead();
        others();
        CHECK.end();
    }

    private static void wholes() {
        TermTable x = new TermTable();
        CHECK.due("whole(0)", x.whole(0), 1);
        CHECK.due("whole(MOST)", x.whole(MOST), 2);
        CHECK.due("whole(-MOST)", x.whole(-MOST), 3);
        CHECK.due("whole(0) again", x.whole(0), 1);
        for (long v : new long[] {MOST + 1, -MOST - 1, Long.MAX_VALUE, Long.MIN_VALUE}) {
            CHECK.due("whole(" + v + ")", x.whole(v), TermTable.BAD);
        }
        CHECK.due("count", x.count(), 3);
        CHECK.due("kind(2)", x.kind(2), 3);
        CHECK.due("value(1)", x.value(1), 0);
        CHECK.due("value(2)", x.value(2), MOST);
        CHECK.due("value(3)", x.value(3), -MOST);
        CHECK.due("scale(3)", x.scale(3), 0);
    }

    private static void decimals() {
        TermTable x = new TermTable();
        decimal(x, 15, 1, 1, 15, 1);
        decimal(x, 1500, 3, 1, 15, 1);
        decimal(x, 1500, 2, 2, 15, 0);
        decimal(x, 15, 0, 2, 15, 0);
        decimal(x, 0, 9, 3, 0, 0);
        decimal(x, 0, 0, 3, 0, 0);
        decimal(x, MOST, 9, 4, MOST, 9);
        decimal(x, -MOST, 0, 5, -MOST, 0);
        decimal(x, -1000000000, 9, 6, -1, 0);
        decimal(x, -10000000000L, 9, 7, -10, 0);
        decimal(x, -5, 9, 8, -5, 9);
        long[][] wrong = {{1, -1}, {1, 10}, {1, Integer.MIN_VALUE}, {1, Integer.MAX_VALUE}, {MOST + 1, 3},
            {-MOST - 1, 3}, {Long.MIN_VALUE, 0}, {Long.MAX_VALUE, 9}, {Long.MIN_VALUE, 10}};
        for (long[] pair : wrong) {
            CHECK.due("decimal(" + pair[0] + ", " + pair[1] + ")", x.decimal(pair[0], (int) pair[1]), TermTable.BAD);
        }
        CHECK.due("count", x.count(), 8);
    }

    private static void decimal(TermTable x, long unscaled, int scale, int term, long value, int least) {
        String call = "decimal(" + unscaled + ", " + scale + ")";
        CHECK.due(call, x.decimal(unscaled, scale), term);
        CHECK.due("kind of " + call, x.kind(term), 4);
        CHECK.due("value of " + call, x.value(term), value);
        CHECK.due("scale of " + call, x.scale(term), least);
    }

    private static void oneWithTheRead() {
        TermTable x = new TermTable();
        CHECK.due("whole(-12)", x.whole(-12), 1);
        CHECK.due("read -012", Check.read(x, "-012"), 1);
        CHECK.due("read -12.50", Check.read(x, "-12.50"), 2);
        CHECK.due("value of -12.50", x.value(2), -125);
        CHECK.due("scale of -12.50", x.scale(2), 1);
        CHECK.due("decimal(-1250, 2)", x.decimal(-1250, 2), 2);
        CHECK.due("decimal(-12, 0)", x.decimal(-12, 0), 3);
        CHECK.due("find -12.0", Check.find(x, "-12.0"), 3);
    }

    private static void others() {
        TermTable x = new TermTable();
        String[] terms = {"true", "false", "_:a", "<a>", "\"7\"", "\"7\"@a", "\"7\"^^<a>"};
        for (int i = 0; i < terms.length; i++) {
            Check.read(x, terms[i]);
            CHECK.due("value of " + terms[i], x.value(i + 1), i == 0 ? 1 : 0);
            CHECK.due("scale of " + terms[i], x.scale(i + 1), 0);
        }
        for (int none : new int[] {0, -1, 8, Integer.MIN_VALUE, Integer.MAX_VALUE}) {
            CHECK.due("value(" + none + ")", x.value(none), 0);
            CHECK.due("scale(" + none + ")", x.scale(none), TermTable.BAD);
        }
    }
}
