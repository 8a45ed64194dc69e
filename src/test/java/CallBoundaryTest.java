/** Promises 1 to 18: each sentence with a bound or a refusal, and that what is refused leaves all as it was. */
public final class CallBoundaryTest {
    private static final Check CHECK = new Check("CallBoundaryTest");
    private static final long MOST = 999999999999999999L;
    /** One term of each kind, under its kind's number. */
    private static final String[] KINDS = {"_:a", "<a>", "1", "1.5", "\"a\"", "\"a\"@a", "\"a\"^^<a>", "true"};
    private static final int[] NONE = {0, -1, 9, 10, 2000, 2001, Integer.MAX_VALUE, Integer.MIN_VALUE};

    public static void main(String[] args) {
        calls512();
        newObject();
        typeLowestBytes();
        typeBad();
        typeFull();
        readMakes();
        tapeIsEmptyThen();
        findMakesNothing();
        placeBefore();
        placeOfFaults();
        placeWithoutFault();
        wholeBad();
        decimalBad();
        decimalMade();
        countAndUsed();
        usedBytes();
        kindBad();
        valueOfOthers();
        scaleOfOthers();
        writeBad();
        writtenBad();
        partBad();
        partNo();
        partMade();
        orderNone();
        orderOfRows();
        orderOfNumbers();
        orderWhereLongsWrap();
        orderOfTexts();
        sameErrors();
        sameOfSorts();
        lessErrors();
        lessOfValues();
        CHECK.end();
    }

    private static void calls512() {
        CHECK.sentence("An object is used for at most 512 calls after it has been made");
        TermTable x = new TermTable();
        for (int i = 1; i <= 510; i++) {
            CHECK.due("whole(" + -i + ")", x.whole(-i), i);
        }
        CHECK.due("call 511", x.count(), 510);
        CHECK.due("call 512", x.value(510), -510);
        TermTable y = new TermTable();
        for (int i = 1; i <= 511; i++) {
            CHECK.due("decimal(" + i + ", 9)", y.decimal(i * 10 + 1, 9), i);
        }
        CHECK.due("call 512", y.order(511, 1), 1);
    }

    private static void newObject() {
        CHECK.sentence("TermTable(): No terms, an empty tape.");
        CHECK.due("count", new TermTable().count(), 0);
        CHECK.due("used", new TermTable().used(), 0);
        CHECK.due("kind(1)", new TermTable().kind(1), TermTable.BAD);
        CHECK.due("type", new TermTable().type(0, 1), 1);
        CHECK.due("read", new TermTable().read(), -101);
        CHECK.due("find", new TermTable().find(), -101);
        TermTable one = new TermTable();
        Check.read(one, "<a>");
        Check.type(one, "<b");
        TermTable other = new TermTable();
        CHECK.due("count beside another one", other.count(), 0);
        CHECK.due("type beside another one", other.type(0, 1), 1);
    }

    private static void typeLowestBytes() {
        CHECK.sentence("The lowest n bytes of bytes, the highest of them first, come behind the tape: its length.");
        long bytes = 0x3132333435363738L;
        long[] lowest = {8, 78, 678, 5678, 45678, 345678, 2345678, 12345678};
        for (int n = 1; n <= 8; n++) {
            TermTable x = new TermTable();
            CHECK.due("type(.., " + n + ")", x.type(bytes, n), n);
            CHECK.due("value of " + n, x.value(x.read()), lowest[n - 1]);
            CHECK.due("type behind", x.type('9', 1), 1);
            CHECK.due("type behind it", x.type(bytes, n), n + 1);
            x.read();
            CHECK.due("value behind", x.value(2), Long.parseLong("9" + lowest[n - 1]));
        }
        TermTable x = new TermTable();
        x.type(Long.MIN_VALUE, 8);
        CHECK.due("read of byte 128", x.read(), -101);
        x.type(0xFFFFFFFFFFFFFF35L, 1);
        CHECK.due("read of the lowest byte of a negative number", x.value(x.read()), 5);
        x.type(-1, 1);
        CHECK.due("read of byte 255", x.read(), -101);
        x.type(0x3100, 2);
        CHECK.due("read of 1 and byte 0", x.read(), -108);
        CHECK.due("place of byte 0", x.place(), 1);
        x.type(0x31, 2);
        CHECK.due("read of byte 0 and 1", x.read(), -101);
    }

    private static void typeBad() {
        CHECK.sentence("BAD when n is not 1 .. 8");
        TermTable x = new TermTable();
        CHECK.due("type of tr", x.type(0x7472, 2), 2);
        for (int n : new int[] {0, 9, -1, 10, 16, 240, 241, Integer.MAX_VALUE, Integer.MIN_VALUE, Integer.MIN_VALUE + 1}) {
            CHECK.due("type(1, " + n + ")", x.type(1, n), TermTable.BAD);
        }
        CHECK.due("type of ue", x.type(0x7565, 2), 4);
        CHECK.due("read of true", x.kind(x.read()), 8);
    }

    private static void typeFull() {
        CHECK.sentence("FULL when it would have more than 240.");
        for (int n = 1; n <= 8; n++) {
            TermTable x = new TermTable();
            int length = 0;
            for (int i = 0; i < 240 / n; i++) {
                length += n;
                CHECK.due("type(0, " + n + ")", x.type(0, n), length);
            }
            CHECK.due("type past 240", x.type(0, n), TermTable.FULL);
            CHECK.due("type past 240 again", x.type(0, n), TermTable.FULL);
            if (length < 240) {
                CHECK.due("type up to 240", x.type(0, 240 - length), 240);
            }
            CHECK.due("type of one more", x.type(0, 1), TermTable.FULL);
            CHECK.due("type of 0 more", x.type(0, 0), TermTable.BAD);
            CHECK.due("type of 9 more", x.type(0, 9), TermTable.BAD);
            CHECK.due("read", x.read(), -101);
            CHECK.due("type on the empty tape", x.type(0, n), n);
        }
    }

    private static void readMakes() {
        CHECK.sentence("The tape is a term, which is made if it is not there: its number, from 1. -100 - fault; FULL.");
        TermTable x = new TermTable();
        for (int i = 0; i < KINDS.length; i++) {
            CHECK.due("read " + KINDS[i], Check.read(x, KINDS[i]), i + 1);
            CHECK.due("read " + KINDS[i] + " again", Check.read(x, KINDS[i]), i + 1);
        }
        CHECK.due("count", x.count(), 8);
        String[] faults = {"?", "<", "<<", "1".repeat(19), "\"\\x", ".0000000001", "\"\"^^<whole>", "1x"};
        for (int fault = 1; fault <= 8; fault++) {
            CHECK.due("read of fault " + fault, Check.read(x, faults[fault - 1]), -100 - fault);
            CHECK.due("find of fault " + fault, Check.find(x, faults[fault - 1]), -100 - fault);
        }
        CHECK.due("count after faults", x.count(), 8);
        CHECK.due("used after faults", x.used(), 1 + 1 + 1 + 2 + 2);
        CHECK.due("read after faults", Check.read(x, "<new>"), 9);
    }

    private static void tapeIsEmptyThen() {
        CHECK.sentence("The tape is empty then (also for find).");
        String[] texts = {"7", "<fault", "", "<new>"};
        for (String text : texts) {
            TermTable x = new TermTable();
            Check.read(x, text);
            CHECK.due("type after read of " + text, x.type('1', 1), 1);
            CHECK.due("read behind it", x.value(x.read()), 1);
            Check.find(x, text);
            CHECK.due("type after find of " + text, x.type('1', 1), 1);
            CHECK.due("find behind it", x.value(x.find()), 1);
        }
    }

    private static void findMakesNothing() {
        CHECK.sentence("The tape is a term: its number; NO when there is none such; -100 - fault.");
        TermTable x = new TermTable();
        for (int i = 0; i < KINDS.length; i++) {
            CHECK.due("find " + KINDS[i] + " before", Check.find(x, KINDS[i]), TermTable.NO);
            CHECK.due("count before " + KINDS[i], x.count(), i);
            Check.read(x, KINDS[i]);
            CHECK.due("find " + KINDS[i], Check.find(x, KINDS[i]), i + 1);
        }
        for (String near : new String[] {"_:aa", "<A>", "-1", "1.0", "\"\"", "\"a\"@b", "\"a\"^^<aa>", "false"}) {
            CHECK.due("find " + near, Check.find(x, near), TermTable.NO);
        }
        CHECK.due("count", x.count(), 8);
        CHECK.due("used", x.used(), 7);
    }

    private static void placeBefore() {
        CHECK.sentence("place: .. 0 before.");
        TermTable x = new TermTable();
        CHECK.due("place of a new object", x.place(), 0);
        Check.type(x, "<abc>");
        CHECK.due("place with a tape", x.place(), 0);
        x.whole(5);
        x.whole(Long.MAX_VALUE);
        x.write(1);
        CHECK.due("place after other calls", x.place(), 0);
    }

    private static void placeOfFaults() {
        CHECK.sentence("Where the latest read() or find() found its fault");
        TermTable x = new TermTable();
        Check.read(x, "<abc d>");
        CHECK.due("place after read", x.place(), 4);
        Check.find(x, "<a b>");
        CHECK.due("place after find", x.place(), 2);
        CHECK.due("place again", x.place(), 2);
        Check.type(x, "1234");
        x.whole(1);
        x.decimal(1, 10);
        x.part(1, 0);
        x.write(1);
        CHECK.due("place after other calls", x.place(), 2);
        x.read();
        x.read();
        CHECK.due("place after a read of nothing", x.place(), 0);
    }

    private static void placeWithoutFault() {
        CHECK.sentence("the tape's length when there was none");
        TermTable x = new TermTable();
        Check.read(x, "<abcd>");
        CHECK.due("place after a read that makes", x.place(), 6);
        Check.read(x, "+000");
        CHECK.due("place after a read of 0", x.place(), 4);
        Check.read(x, "<abcd>");
        CHECK.due("place after a read of what is there", x.place(), 6);
        Check.find(x, "\"\"");
        CHECK.due("place after NO", x.place(), 2);
        Check.find(x, "0");
        CHECK.due("place after find", x.place(), 1);
        Check.read(x, "\"" + "\\n".repeat(64) + "\"^^<" + "n".repeat(60) + ">");
        CHECK.due("place after the longest", x.place(), 194);
        Check.read(x, "\"a\"^^<text>");
        CHECK.due("place after <text>", x.place(), 11);
        Check.read(x, "\"5\"^^<whole>");
        CHECK.due("place after <whole>", x.place(), 12);
    }

    private static void wholeBad() {
        CHECK.sentence("whole: .. BAD when it has more than 18 digits");
        TermTable x = new TermTable();
        for (long v : new long[] {MOST + 1, -MOST - 1, MOST + 2, Long.MAX_VALUE, Long.MIN_VALUE, Long.MIN_VALUE + 1}) {
            CHECK.due("whole(" + v + ")", x.whole(v), TermTable.BAD);
        }
        CHECK.due("count", x.count(), 0);
        long[] good = {MOST, -MOST, 0, 1, -1, MOST - 1};
        for (int i = 0; i < good.length; i++) {
            CHECK.due("whole(" + good[i] + ")", x.whole(good[i]), i + 1);
            CHECK.due("whole(" + good[i] + ") again", x.whole(good[i]), i + 1);
            CHECK.due("value of " + good[i], x.value(i + 1), good[i]);
            CHECK.due("written " + good[i], Check.written(x, i + 1), Long.toString(good[i]));
            CHECK.due("read " + good[i], Check.read(x, Long.toString(good[i])), i + 1);
        }
        CHECK.due("count in the end", x.count(), good.length);
    }

    private static void decimalBad() {
        CHECK.sentence("decimal: .. BAD when scale is not 0 .. 9, or unscaled has more than 18 digits");
        TermTable x = new TermTable();
        for (int scale : new int[] {-1, 10, 11, 256, Integer.MAX_VALUE, Integer.MIN_VALUE}) {
            CHECK.due("decimal(0, " + scale + ")", x.decimal(0, scale), TermTable.BAD);
            CHECK.due("decimal(10, " + scale + ")", x.decimal(10, scale), TermTable.BAD);
        }
        for (long unscaled : new long[] {MOST + 1, -MOST - 1, Long.MAX_VALUE, Long.MIN_VALUE, 5000000000000000000L}) {
            for (int scale = 0; scale <= 9; scale++) {
                CHECK.due("decimal(" + unscaled + ", " + scale + ")", x.decimal(unscaled, scale), TermTable.BAD);
            }
        }
        CHECK.due("count", x.count(), 0);
    }

    private static void decimalMade() {
        CHECK.sentence("The decimal unscaled / 10^scale as a term, made if it is not there: its number.");
        TermTable x = new TermTable();
        for (int scale = 0; scale <= 9; scale++) {
            CHECK.due("decimal(MOST, " + scale + ")", x.decimal(MOST, scale), 2 * scale + 1);
            CHECK.due("decimal(-MOST, " + scale + ")", x.decimal(-MOST, scale), 2 * scale + 2);
            CHECK.due("scale", x.scale(2 * scale + 2), scale);
            CHECK.due("value", x.value(2 * scale + 2), -MOST);
        }
        TermTable y = new TermTable();
        long unscaled = -1;
        for (int scale = 0; scale <= 9; scale++) {
            CHECK.due("-1 at scale " + scale, y.decimal(unscaled, scale), 1);
            CHECK.due("0 at scale " + scale, y.decimal(0, scale), 2);
            unscaled *= 10;
        }
        CHECK.due("-10 past scale 9", y.decimal(unscaled, 9), 3);
        CHECK.due("value of -10.0", y.value(3), -10);
        CHECK.due("whole of the same value", y.whole(-1), 4);
        CHECK.due("read of -1.0", Check.read(y, "-1.0"), 1);
    }

    private static void countAndUsed() {
        CHECK.sentence("How many terms there are.");
        TermTable x = new TermTable();
        x.whole(1);
        x.whole(1);
        x.decimal(1, 0);
        Check.read(x, "1");
        Check.find(x, "2");
        Check.read(x, "1x");
        x.whole(Long.MIN_VALUE);
        x.decimal(1, -1);
        x.part(1, 0);
        x.part(9, 0);
        CHECK.due("count", x.count(), 2);
        CHECK.due("used", x.used(), 0);
        CHECK.due("kind past the last", x.kind(3), TermTable.BAD);
    }

    private static void usedBytes() {
        CHECK.sentence("of each term that there is its own (also if others have the same): of a blank, a name those without _ : < >, "
            + "of a text those that it is, and its tag's or type's; of numbers and truths none");
        String[] texts = {"_:abc", "<abc>", "\"abc\"", "\"abc\"@abc", "\"abc\"^^<abc>", "123", "1.23", "true", "\"\"",
            "\"\\n\\\"\\\\\"", "\"x\"^^<text>", "\"9\"^^<whole>", "\"false\"^^<truth>", "_:" + "_".repeat(60),
            "\"" + "\\t".repeat(64) + "\"@abcdefgh-1234567-abc"};
        int[] bytes = {3, 3, 3, 6, 6, 0, 0, 0, 0, 3, 1, 0, 0, 60, 84};
        TermTable x = new TermTable();
        int used = 0;
        for (int i = 0; i < texts.length; i++) {
            Check.read(x, texts[i]);
            used += bytes[i];
            CHECK.due("used after " + texts[i], x.used(), used);
            Check.read(x, texts[i]);
            CHECK.due("used after " + texts[i] + " again", x.used(), used);
        }
        CHECK.due("count", x.count(), texts.length);
        x.part(4, 0);
        x.part(4, 1);
        x.part(5, 2);
        CHECK.due("used after parts that are there", x.used(), used);
        x.part(15, 1);
        CHECK.due("used after a tag of 20", x.used(), used + 20);
        x.part(15, 0);
        CHECK.due("used after a text of 64", x.used(), used + 84);
    }

    private static void kindBad() {
        CHECK.sentence("The kind of a term; BAD when there is none of this number.");
        TermTable x = ofEachKind();
        for (int kind = 1; kind <= 8; kind++) {
            CHECK.due("kind(" + kind + ")", x.kind(kind), kind);
        }
        for (int none : NONE) {
            CHECK.due("kind(" + none + ")", x.kind(none), TermTable.BAD);
        }
    }

    private static void valueOfOthers() {
        CHECK.sentence("A whole's number, a decimal's UNSCALED, a truth's 0 or 1; 0 for others.");
        TermTable x = ofEachKind();
        long[] values = {0, 0, 1, 15, 0, 0, 0, 1};
        for (int kind = 1; kind <= 8; kind++) {
            CHECK.due("value(" + kind + ")", x.value(kind), values[kind - 1]);
        }
        CHECK.due("value of false", x.value(Check.read(x, "false")), 0);
        for (int none : new int[] {0, -1, 10, 2001, Integer.MAX_VALUE, Integer.MIN_VALUE}) {
            CHECK.due("value(" + none + ")", x.value(none), 0);
        }
    }

    private static void scaleOfOthers() {
        CHECK.sentence("A decimal's SCALE; 0 for others; BAD when there is none.");
        TermTable x = ofEachKind();
        for (int kind = 1; kind <= 8; kind++) {
            CHECK.due("scale(" + kind + ")", x.scale(kind), kind == 4 ? 1 : 0);
        }
        for (int none : NONE) {
            CHECK.due("scale(" + none + ")", x.scale(none), TermTable.BAD);
        }
        CHECK.due("scale of 1.0", x.scale(x.decimal(10, 1)), 0);
        CHECK.due("scale of the finest", x.scale(x.decimal(1, 9)), 9);
    }

    private static void writeBad() {
        CHECK.sentence("A term is WRITTEN: how many bytes. BAD.");
        TermTable x = ofEachKind();
        for (int kind = 1; kind <= 8; kind++) {
            CHECK.due("write(" + kind + ")", x.write(kind), KINDS[kind - 1].length());
            CHECK.due("written of " + kind, Check.latest(x, KINDS[kind - 1].length()), KINDS[kind - 1]);
        }
        for (int none : NONE) {
            CHECK.due("write(" + none + ")", x.write(none), TermTable.BAD);
        }
        CHECK.due("the latest is the last that could be written", Check.latest(x, 4), "true");
        CHECK.due("write on a new object", new TermTable().write(1), TermTable.BAD);
    }

    private static void writtenBad() {
        CHECK.sentence("Byte i of what was written latest; BAD when there is none.");
        TermTable x = ofEachKind();
        CHECK.due("written(0) before", x.written(0), TermTable.BAD);
        x.write(7);
        x.write(3);
        CHECK.due("written(0)", x.written(0), '1');
        for (int none : new int[] {-1, 1, 2, 7, 193, 194, 240, Integer.MAX_VALUE, Integer.MIN_VALUE}) {
            CHECK.due("written(" + none + ")", x.written(none), TermTable.BAD);
        }
        x.read();
        x.whole(77);
        Check.read(x, "<other>");
        x.part(6, 0);
        CHECK.due("written(0) after other calls", x.written(0), '1');
        x.write(7);
        CHECK.due("written(7)", x.written(7), '>');
        CHECK.due("written(8)", x.written(8), TermTable.BAD);
    }

    private static void partBad() {
        CHECK.sentence("part: .. BAD when there is no such term");
        TermTable x = ofEachKind();
        for (int none : NONE) {
            for (int what = -1; what <= 3; what++) {
                CHECK.due("part(" + none + ", " + what + ")", x.part(none, what), TermTable.BAD);
            }
        }
        CHECK.due("count", x.count(), 8);
    }

    private static void partNo() {
        CHECK.sentence("part: .. NO when it has none such");
        TermTable x = ofEachKind();
        for (int kind = 1; kind <= 8; kind++) {
            for (int what : new int[] {-1, 0, 1, 2, 3, 5, 6, 7, Integer.MAX_VALUE, Integer.MIN_VALUE}) {
                boolean has = what == 0 && kind >= 5 && kind <= 7 || what == 1 && kind == 6 || what == 2 && kind == 7;
                if (!has) {
                    CHECK.due("part(" + kind + ", " + what + ")", x.part(kind, what), TermTable.NO);
                }
            }
        }
        CHECK.due("count", x.count(), 8);
        CHECK.due("used", x.used(), 7);
    }

    private static void partMade() {
        CHECK.sentence("Of a text (kinds 5 .. 7) the text alone (what = 0), of kind 6 the tag as a text (1), of kind 7 the type's name "
            + "(2): a term, made if it is not there.");
        TermTable x = new TermTable();
        Check.read(x, "\"\"@EN-1");
        Check.read(x, "\"" + "\\\\".repeat(64) + "\"^^<" + "T".repeat(60) + ">");
        CHECK.due("part(1, 0)", x.part(1, 0), 3);
        CHECK.due("the empty text", Check.written(x, 3), "\"\"");
        CHECK.due("part(1, 1)", x.part(1, 1), 4);
        CHECK.due("the tag", Check.written(x, 4), "\"en-1\"");
        CHECK.due("part(2, 0)", x.part(2, 0), 5);
        CHECK.due("the longest text", Check.written(x, 5), "\"" + "\\\\".repeat(64) + "\"");
        CHECK.due("part(2, 2)", x.part(2, 2), 6);
        CHECK.due("the longest name", Check.written(x, 6), "<" + "T".repeat(60) + ">");
        for (int text = 3; text <= 5; text++) {
            CHECK.due("the text of a text", x.part(text, 0), text);
            CHECK.due("kind", x.kind(text), 5);
        }
        CHECK.due("kind", x.kind(6), 2);
        CHECK.due("part(1, 1) again", x.part(1, 1), 4);
        CHECK.due("part(2, 2) again", x.part(2, 2), 6);
        CHECK.due("count", x.count(), 6);
        CHECK.due("the term itself stays", Check.written(x, 1), "\"\"@en-1");
    }

    private static void orderNone() {
        CHECK.sentence("order: -1, 0, 1 as a comes before b, is it, comes behind it; 2 when one is none.");
        TermTable x = ofEachKind();
        for (int kind = 1; kind <= 8; kind++) {
            CHECK.due("order of itself", x.order(kind, kind), 0);
            for (int none : NONE) {
                CHECK.due("order(" + kind + ", " + none + ")", x.order(kind, none), 2);
                CHECK.due("order(" + none + ", " + kind + ")", x.order(none, kind), 2);
                CHECK.due("order(" + none + ", " + none + ")", x.order(none, none), 2);
            }
        }
        CHECK.sentence("by kinds, as 1, 2, then 3 and 4 together, 5, 6, 7, 8");
        for (int one = 1; one <= 8; one++) {
            for (int other = 1; other <= 8; other++) {
                CHECK.due("order(" + one + ", " + other + ")", x.order(one, other), Integer.compare(one, other));
            }
        }
    }

    private static void orderOfRows() {
        CHECK.sentence("by their bytes (the first that differ; a row that is the beginning of another one first)");
        rising("_:0", "_:9", "_:A", "_:AZ", "_:Z", "_:_", "_:a", "_:aA", "_:aa", "_:" + "z".repeat(59), "_:" + "z".repeat(60));
        rising("<!>", "<A>", "<[>", "<_>", "<a>", "<a!>", "<a~>", "<b>", "<~>");
        rising("\"\"", "\"\\t\"", "\"\\t\\t\"", "\"\\n\"", "\"\\r\"", "\" \"", "\"!\"", "\"\\\"\"", "\"#\"", "\"[\"", "\"\\\\\"", "\"]\"",
            "\"n\"", "\"~\"", "\"~" + "~".repeat(63) + "\"");
    }

    private static void orderOfNumbers() {
        CHECK.sentence("numbers by value, a whole before a decimal");
        rising("-999999999999999999", "-99999999999999999.9", "-99999999999999999", "-99999999999999999.0", "-1.000000001", "-1", "-1.0",
            "-0.999999999", "-0.1", "-0.000000001", "0", "0.0", "0.000000001", "0.1", "0.999999999", "1", "1.0", "1.000000001", "1.1");
        rising("99999999.999999999", "100000000", "100000000.0", "100000000.000000001", "999999999.999999999",
            "1000000000", "99999999999999999", "99999999999999999.9", "100000000000000000", "999999999999999999");
        TermTable x = new TermTable();
        CHECK.due("order of most", x.order(x.whole(MOST), x.decimal(MOST, 0)), -1);
        CHECK.due("order of most, turned", x.order(x.decimal(-MOST, 0), x.whole(-MOST)), 1);
        CHECK.due("order of -most and most", x.order(x.decimal(-MOST, 0), x.decimal(MOST, 0)), -1);
        CHECK.due("order of most and its 10th", x.order(x.decimal(MOST, 0), x.decimal(MOST, 1)), 1);
        CHECK.due("order of neighbours", x.order(x.decimal(MOST - 1, 9), x.decimal(MOST, 9)), -1);
        CHECK.due("order of neighbours below 0", x.order(x.decimal(1 - MOST, 9), x.decimal(-MOST, 9)), 1);
    }

    private static void orderWhereLongsWrap() {
        CHECK.sentence("numbers by value, a whole before a decimal");
        // In billionths, or in a few times as many, a long wraps around between the .1 and the .9 of each of these.
        long[] wholes = {9223372036L, 27670116110L, 4611686018L, 13835058055L, 19471563189L, 29719754341L, 10248191151L, 30744573455L};
        for (long whole : wholes) {
            rising(whole + "", whole + ".0", whole + ".1", whole + ".9", whole + 1 + "", whole + 1 + ".0");
            rising("-" + (whole + 1), "-" + (whole + 1) + ".0", "-" + whole + ".9", "-" + whole + ".1", "-" + whole, "-" + whole + ".0");
        }
    }

    private static void orderOfTexts() {
        CHECK.sentence("texts with a language or type then by these; false before true");
        rising("\"\"@z", "\"a\"@a", "\"a\"@a-0", "\"a\"@aa", "\"a\"@b", "\"aa\"@a", "\"b\"@a");
        rising("\"\"^^<z>", "\"a\"^^<A>", "\"a\"^^<a>", "\"a\"^^<a!>", "\"a\"^^<b>", "\"aa\"^^<a>", "\"b\"^^<a>");
        rising("_:z", "<!>", "9.5", "\"\"", "\"z\"", "\"\"@a", "\"z\"@z", "\"\"^^<a>", "\"z\"^^<z>", "false", "true");
    }

    private static void rising(String... texts) {
        TermTable x = new TermTable();
        int[] terms = new int[texts.length];
        // From the last one: the numbers of the terms must not be what orders them.
        for (int i = texts.length - 1; i >= 0; i--) {
            terms[i] = Check.read(x, texts[i]);
        }
        for (int i = 0; i < texts.length; i++) {
            for (int j = Math.max(0, i - 4); j < Math.min(texts.length, i + 5); j++) {
                CHECK.due("order of " + texts[i] + " and " + texts[j], x.order(terms[i], terms[j]), Integer.compare(i, j));
            }
        }
    }

    private static void sameErrors() {
        CHECK.sentence("same: 1 or 0; 2 an ERROR (also when one is none).");
        TermTable x = ofEachKind();
        for (int kind = 1; kind <= 8; kind++) {
            CHECK.due("same of itself", x.same(kind, kind), 1);
            for (int none : NONE) {
                CHECK.due("same(" + kind + ", " + none + ")", x.same(kind, none), 2);
                CHECK.due("same(" + none + ", " + kind + ")", x.same(none, kind), 2);
                CHECK.due("same(" + none + ", " + none + ")", x.same(none, none), 2);
            }
        }
    }

    private static void sameOfSorts() {
        CHECK.sentence("of two different sorts (numbers, 5, 6, 7, 8, 1, 2): 0, but an ERROR if one has kind 7 and the other 3 .. 8");
        TermTable x = ofEachKind();
        for (int one = 1; one <= 8; one++) {
            for (int other = 1; other <= 8; other++) {
                boolean error = one != other && (one == 7 && other >= 3 || other == 7 && one >= 3);
                CHECK.due("same(" + one + ", " + other + ")", x.same(one, other), one == other ? 1 : error ? 2 : 0);
            }
        }
        CHECK.sentence("two numbers by value; texts (kind 5) by bytes; truths; blanks and names: whether they are one and the same; "
            + "texts with languages: likewise; two texts with types: 1 if they are one and the same, else an ERROR");
        String[][] pairs = {{"_:a", "_:b", "0"}, {"<a>", "<aa>", "0"}, {"1", "1.0", "1"}, {"0", "0.0", "1"}, {"1", "1.000000001", "0"},
            {"1", "-1", "0"}, {"1.5", "15", "0"}, {"\"a\"", "\"a \"", "0"}, {"\"\"", "\"a\"", "0"}, {"\"1\"", "1", "0"},
            {"\"a\"@a", "\"a\"@b", "0"}, {"\"a\"@a", "\"b\"@a", "0"}, {"\"a\"@a", "\"a\"@A", "1"}, {"\"a\"^^<a>", "\"a\"^^<b>", "2"},
            {"\"a\"^^<a>", "\"b\"^^<a>", "2"}, {"true", "false", "0"}, {"1", "true", "0"}, {"_:a", "<a>", "0"},
            {"_:a", "\"a\"^^<a>", "0"}, {"<a>", "\"a\"^^<a>", "0"}, {"false", "\"a\"^^<a>", "2"}, {"0.0", "\"a\"^^<a>", "2"}};
        for (String[] pair : pairs) {
            int one = Check.read(x, pair[0]);
            int other = Check.read(x, pair[1]);
            CHECK.due("same of " + pair[0] + " and " + pair[1], x.same(one, other), Integer.parseInt(pair[2]));
            CHECK.due("same of " + pair[1] + " and " + pair[0], x.same(other, one), Integer.parseInt(pair[2]));
        }
        CHECK.due("same of most", x.same(x.whole(MOST), x.decimal(MOST, 0)), 1);
        CHECK.due("same of neighbours", x.same(x.whole(MOST), x.decimal(MOST - 1, 0)), 0);
    }

    private static void lessErrors() {
        CHECK.sentence("less: 1 or 0; 2 an ERROR (also when one is none).");
        TermTable x = ofEachKind();
        for (int kind = 1; kind <= 8; kind++) {
            for (int none : NONE) {
                CHECK.due("less(" + kind + ", " + none + ")", x.less(kind, none), 2);
                CHECK.due("less(" + none + ", " + kind + ")", x.less(none, kind), 2);
                CHECK.due("less(" + none + ", " + none + ")", x.less(none, none), 2);
            }
        }
        CHECK.sentence("two numbers, two texts (kind 5), two truths; others: an ERROR");
        for (int one = 1; one <= 8; one++) {
            for (int other = 1; other <= 8; other++) {
                boolean numbers = (one == 3 || one == 4) && (other == 3 || other == 4);
                boolean can = numbers || one == other && (one == 5 || one == 8);
                CHECK.due("less(" + one + ", " + other + ")", x.less(one, other), !can ? 2 : one < other ? 1 : 0);
            }
        }
    }

    private static void lessOfValues() {
        CHECK.sentence("two numbers, two texts (kind 5), two truths");
        String[][] rising = {{"-1", "0"}, {"-1.0", "0.0"}, {"0", "0.000000001"}, {"-0.000000001", "0"}, {"1.9", "2"}, {"-2", "-1.9"},
            {"9", "10"}, {"0.09", "0.1"}, {"99999999999999999.9", "100000000000000000"}, {"\"\"", "\"a\""}, {"\"a\"", "\"aa\""},
            {"\"Z\"", "\"a\""}, {"\"\\t\"", "\"\\n\""}, {"\"10\"", "\"9\""}, {"false", "true"}};
        TermTable x = new TermTable();
        for (String[] pair : rising) {
            int other = Check.read(x, pair[1]);
            int one = Check.read(x, pair[0]);
            CHECK.due("less of " + pair[0] + " and " + pair[1], x.less(one, other), 1);
            CHECK.due("less of " + pair[1] + " and " + pair[0], x.less(other, one), 0);
            CHECK.due("less of " + pair[0] + " and itself", x.less(one, one), 0);
        }
        CHECK.due("less of 1 and 1.0", x.less(x.whole(1), x.decimal(1, 0)), 0);
        CHECK.due("less of 1.0 and 1", x.less(x.decimal(1, 0), x.whole(1)), 0);
        CHECK.due("less of -most and most", x.less(x.decimal(-MOST, 0), x.decimal(MOST, 0)), 1);
        CHECK.due("less of most and -most", x.less(x.whole(MOST), x.whole(-MOST)), 0);
        CHECK.due("less of neighbours", x.less(x.decimal(MOST - 1, 9), x.decimal(MOST, 9)), 1);
    }

    private static TermTable ofEachKind() {
        TermTable x = new TermTable();
        for (String text : KINDS) {
            Check.read(x, text);
        }
        return x;
    }
}
