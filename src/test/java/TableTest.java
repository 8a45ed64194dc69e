/** Promises 8, 9, 10 and 15: count, used, kind, part; and FULL, which lies past the 512 calls of the document. */
public final class TableTest {
    private static final Check CHECK = new Check("TableTest");

    public static void main(String[] args) {
        countUsedKind();
        parts();
        wrongParts();
        longestParts();
        fullOfTerms();
        fullOfBytes();
        CHECK.end();
    }

    private static void countUsedKind() {
        TermTable x = new TermTable();
        String[] terms = {"_:abc", "<abcd>", "12", "1.2", "\"a\\n\\\"b\"", "\"ab\"@EN-us", "\"ab\"^^<type>", "true"};
        int[] bytes = {3, 4, 0, 0, 4, 7, 6, 0};
        int used = 0;
        for (int i = 0; i < terms.length; i++) {
            for (int again = 0; again < 2; again++) {
                CHECK.due("read " + terms[i], Check.read(x, terms[i]), i + 1);
                used += again == 0 ? bytes[i] : 0;
                CHECK.due("count after " + terms[i], x.count(), i + 1);
                CHECK.due("used after " + terms[i], x.used(), used);
                CHECK.due("kind of " + terms[i], x.kind(i + 1), i + 1);
            }
        }
        Check.find(x, "<new>");
        Check.read(x, "<new");
        CHECK.due("count after find and a fault", x.count(), 8);
        CHECK.due("used after find and a fault", x.used(), used);
        Check.read(x, "\"xyz\"^^<text>");
        Check.read(x, "\"123\"^^<whole>");
        CHECK.due("used after <text> and <whole>", x.used(), used + 3);
        for (int none : new int[] {0, -1, 11, 2001, Integer.MIN_VALUE, Integer.MAX_VALUE}) {
            CHECK.due("kind(" + none + ")", x.kind(none), TermTable.BAD);
        }
    }

    private static void parts() {
        TermTable x = new TermTable();
        CHECK.due("read 1", Check.read(x, "\"a\\tb\"@En-GB"), 1);
        CHECK.due("read 2", Check.read(x, "\"a\\tb\"^^<t>"), 2);
        CHECK.due("part(1, 1)", x.part(1, 1), 3);
        CHECK.due("tag", Check.written(x, 3), "\"en-gb\"");
        CHECK.due("kind of the tag", x.kind(3), 5);
        CHECK.due("part(2, 2)", x.part(2, 2), 4);
        CHECK.due("type", Check.written(x, 4), "<t>");
        CHECK.due("part(1, 0)", x.part(1, 0), 5);
        CHECK.due("text", Check.written(x, 5), "\"a\\tb\"");
        CHECK.due("part(2, 0)", x.part(2, 0), 5);
        CHECK.due("part(5, 0)", x.part(5, 0), 5);
        CHECK.due("part(1, 1) again", x.part(1, 1), 3);
        CHECK.due("part(2, 2) again", x.part(2, 2), 4);
        CHECK.due("count", x.count(), 5);
        CHECK.due("used", x.used(), 8 + 4 + 5 + 1 + 3);
        CHECK.due("find <t>", Check.find(x, "<t>"), 4);
        CHECK.due("find the tag", Check.find(x, "\"en-gb\""), 3);
    }

    private static void wrongParts() {
        TermTable x = new TermTable();
        String[] terms = {"_:a", "<a>", "1", "1.5", "\"a\"", "\"a\"@b", "\"a\"^^<b>", "true"};
        int[] whats = {-1, 0, 1, 2, 3, Integer.MIN_VALUE, Integer.MAX_VALUE};
        for (String term : terms) {
            Check.read(x, term);
        }
        for (int kind = 1; kind <= 8; kind++) {
            for (int what : whats) {
                boolean has = what == 0 && kind >= 5 && kind <= 7 || what == 1 && kind == 6 || what == 2 && kind == 7;
                if (!has) {
                    CHECK.due("part(" + kind + ", " + what + ")", x.part(kind, what), TermTable.NO);
                }
            }
        }
        CHECK.due("count", x.count(), 8);
        for (int what : whats) {
            for (int none : new int[] {0, 9, -1, Integer.MIN_VALUE, Integer.MAX_VALUE}) {
                CHECK.due("part(" + none + ", " + what + ")", x.part(none, what), TermTable.BAD);
            }
        }
    }

    private static void longestParts() {
        TermTable x = new TermTable();
        String text = "\"" + "\\\"".repeat(64) + "\"";
        String type = "<" + "t".repeat(60) + ">";
        Check.read(x, text + "^^" + type);
        CHECK.due("used", x.used(), 124);
        CHECK.due("text", Check.written(x, x.part(1, 0)), text);
        CHECK.due("type", Check.written(x, x.part(1, 2)), type);
        CHECK.due("used with parts", x.used(), 248);
    }

    private static void fullOfTerms() {
        TermTable x = new TermTable();
        for (int i = 1; i <= 1999; i++) {
            CHECK.due("whole(" + i + ")", x.whole(i), i);
        }
        CHECK.due("read term 2000", Check.read(x, "\"a\"@b"), 2000);
        CHECK.due("whole of no room", x.whole(5000), TermTable.FULL);
        CHECK.due("decimal of no room", x.decimal(5, 1), TermTable.FULL);
        CHECK.due("read of no room", Check.read(x, "<a>"), TermTable.FULL);
        CHECK.due("place of no room", x.place(), 3);
        CHECK.due("type after no room", x.type('1', 1), 1);
        CHECK.due("find when full", x.find(), 1);
        CHECK.due("part of no room", x.part(2000, 0), TermTable.FULL);
        CHECK.due("whole that is there", x.whole(7), 7);
        CHECK.due("fault when full", Check.read(x, "<a"), -102);
        CHECK.due("count", x.count(), 2000);
        CHECK.due("used", x.used(), 2);
        CHECK.due("kind(2000)", x.kind(2000), 6);
        CHECK.due("kind(2001)", x.kind(2001), TermTable.BAD);
    }

    private static void fullOfBytes() {
        TermTable x = new TermTable();
        for (int i = 0; i < 400; i++) {
            Check.read(x, "\"" + (1000 + i) + "x".repeat(36) + "\"^^<" + "y".repeat(60) + ">");
        }
        CHECK.due("used", x.used(), 40000);
        CHECK.due("read of no room", Check.read(x, "<a>"), TermTable.FULL);
        CHECK.due("part of no room", x.part(1, 0), TermTable.FULL);
        CHECK.due("a number needs no byte", x.whole(1), 401);
        CHECK.due("used in the end", x.used(), 40000);
    }
}
