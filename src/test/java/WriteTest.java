/** Promises 13 and 14: write, written. (ReadTest looks at how each kind is written.) */
public final class WriteTest {
    private static final Check CHECK = new Check("WriteTest");

    public static void main(String[] args) {
        latestStays();
        numbers();
        everyByteOfTexts();
        CHECK.end();
    }

    private static void latestStays() {
        TermTable x = new TermTable();
        CHECK.due("write(1) of none", x.write(1), TermTable.BAD);
        CHECK.due("written(0) of none", x.written(0), TermTable.BAD);
        Check.read(x, "_:abc");
        Check.read(x, "7");
        CHECK.due("written(0) before a write", x.written(0), TermTable.BAD);
        CHECK.due("write(1)", x.write(1), 5);
        for (int none : new int[] {0, 3, -1, Integer.MIN_VALUE, Integer.MAX_VALUE}) {
            CHECK.due("write(" + none + ")", x.write(none), TermTable.BAD);
        }
        Check.read(x, "<other>");
        CHECK.due("the latest written", Check.latest(x, 5), "_:abc");
        for (int none : new int[] {5, 6, -1, 193, 194, Integer.MIN_VALUE, Integer.MAX_VALUE}) {
            CHECK.due("written(" + none + ")", x.written(none), TermTable.BAD);
        }
        CHECK.due("write(2)", x.write(2), 1);
        CHECK.due("written(0) of 7", x.written(0), '7');
        CHECK.due("written(1) of 7", x.written(1), TermTable.BAD);
    }

    private static void numbers() {
        TermTable x = new TermTable();
        CHECK.due("0", Check.written(x, x.whole(0)), "0");
        CHECK.due("10", Check.written(x, x.whole(10)), "10");
        CHECK.due("-1000000", Check.written(x, x.whole(-1000000)), "-1000000");
        CHECK.due("0.0", Check.written(x, x.decimal(0, 5)), "0.0");
        CHECK.due("10.0", Check.written(x, x.decimal(10, 0)), "10.0");
        CHECK.due("-0.01", Check.written(x, x.decimal(-10, 3)), "-0.01");
        CHECK.due("0.000000001", Check.written(x, x.decimal(1, 9)), "0.000000001");
        CHECK.due("1.000000001", Check.written(x, x.decimal(1000000001, 9)), "1.000000001");
        CHECK.due("the most", Check.written(x, x.decimal(-999999999999999999L, 0)), "-999999999999999999.0");
        CHECK.due("the most digits", Check.written(x, x.decimal(-999999999999999999L, 9)), "-999999999.999999999");
        CHECK.due("12.3", Check.written(x, x.decimal(123, 1)), "12.3");
    }

    private static void everyByteOfTexts() {
        for (int b = 32; b <= 126; b++) {
            TermTable x = new TermTable();
            String item = b == '"' || b == '\\' ? "\\" + (char) b : String.valueOf((char) b);
            String text = "\"" + item + "\"";
            CHECK.due("text of byte " + b, Check.written(x, Check.read(x, text)), text);
        }
    }
}
