import java.util.Map;

/** What README.md shows. */
public final class ExampleTest {
    private static final Check CHECK = new Check("ExampleTest");

    public static void main(String[] args) {
        lookAtCalls();
        lookAtKinds();
        lookAtChoices();
        CHECK.end();
    }

    private static void lookAtCalls() {
        TermTable table = new TermTable();
        CHECK.due("type 1.50", table.type(0x312E3530L, 4), 4);
        int some = table.read();
        CHECK.due("read 1.50", some, 1);
        int one = table.whole(1);
        CHECK.due("whole(1)", one, 2);
        CHECK.due("less(one, some)", table.less(one, some), 1);
        CHECK.due("write(some)", table.write(some), 3);
        CHECK.due("written(0)", table.written(0), 49);
        CHECK.due("type 1.", table.type(0x312EL, 2), 2);
        CHECK.due("find 1.", table.find(), -102);
        CHECK.due("place()", table.place(), 2);
    }

    private static void lookAtKinds() {
        Map<String, Integer> kinds = Map.of("_:b1", 1, "<http://x/y>", 2, "-12", 3, "1.5", 4, "\"a \\\"b\\\"\"", 5,
            "\"a\"@en-gb", 6, "\"a\"^^<t>", 7, "true", 8);
        kinds.forEach((row, kind) -> CHECK.reads(row, kind, row));
        CHECK.reads("\"a\"^^<text>", 5, "\"a\"");
        CHECK.reads("\"1\"^^<whole>", 3, "1");
        CHECK.reads("\"1.5\"^^<decimal>", 4, "1.5");
        CHECK.reads("\"true\"^^<truth>", 8, "true");
    }

    private static void lookAtChoices() {
        String digits = "9".repeat(18);
        CHECK.fault("." + digits + "9", 4, 19);
        CHECK.fault(digits + ".", 2, 19);
        CHECK.fault(digits + ".x", 3, 19);
        CHECK.fault(digits + ".0", 4, 19);
        CHECK.fault("\"\"@aaaaaaaa-aaaaaaaa-aa-", 4, 23);
        CHECK.fault("\"\"@aaaaaaaa-aaaaaaaa-a-!", 4, 23);
        CHECK.fault("\"\"@aaaaaaaa1", 8, 11);
        CHECK.fault("_:" + "b".repeat(60) + "_", 4, 62);
        CHECK.fault("_:" + "b".repeat(60) + "-", 8, 62);
        CHECK.fault("truex", 3, 4);
        CHECK.fault("true-", 8, 4);
        CHECK.fault("\"5\"^^<decimal>", 7, 0);
        TermTable table = new TermTable();
        table.write(table.whole(7));
        CHECK.due("write(2)", table.write(2), TermTable.BAD);
        CHECK.due("written(0) after it", table.written(0), '7');
        CHECK.due("value(2)", table.value(2), 0);
    }
}
