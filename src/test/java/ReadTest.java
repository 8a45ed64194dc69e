/** Promises 3, 4 and 5 for each kind of term: what is read, and each fault at its place. */
public final class ReadTest {
    private static final Check CHECK = new Check("ReadTest");
    private static final String A59 = "a".repeat(59);
    private static final String X63 = "x".repeat(63);

    public static void main(String[] args) {
        beginnings();
        blanks();
        names();
        wholes();
        decimals();
        texts();
        languages();
        types();
        typesOfOtherKinds();
        truths();
        oneAndTheSame();
        CHECK.end();
    }

    private static void beginnings() {
        CHECK.fault("", 1, 0);
        for (int b = 0; b < 256; b++) {
            String text = String.valueOf((char) b);
            boolean begins = "_<+-.0123456789\"tf".indexOf(b) >= 0;
            if (!begins) {
                CHECK.fault(text, 1, 0);
                CHECK.fault(text + "1", 1, 0);
            } else if (b < '0' || b > '9') {
                CHECK.fault(text, 2, 1);
            }
        }
        CHECK.fault(" 1", 1, 0);
        CHECK.fault("True", 1, 0);
    }

    private static void blanks() {
        CHECK.reads("_:a", 1, "_:a");
        CHECK.reads("_:_", 1, "_:_");
        CHECK.reads("_:0Zz_9", 1, "_:0Zz_9");
        CHECK.reads("_:" + A59 + "b", 1, "_:" + A59 + "b");
        CHECK.fault("_", 2, 1);
        CHECK.fault("_a", 3, 1);
        CHECK.fault("_:", 2, 2);
        CHECK.fault("_:-", 3, 2);
        CHECK.fault("_::a", 3, 2);
        CHECK.fault("_:a-", 8, 3);
        CHECK.fault("_:a ", 8, 3);
        CHECK.fault("_:a\u00e4", 8, 3);
        CHECK.fault("_:" + A59 + "bc", 4, 62);
        CHECK.fault("_:" + A59 + "b-", 8, 62);
    }

    private static void names() {
        CHECK.reads("<a>", 2, "<a>");
        CHECK.reads("<!~#/:?@[]_>", 2, "<!~#/:?@[]_>");
        CHECK.reads("<text>", 2, "<text>");
        CHECK.reads("<" + A59 + "b>", 2, "<" + A59 + "b>");
        CHECK.fault("<", 2, 1);
        CHECK.fault("<a", 2, 2);
        CHECK.fault("<>", 3, 1);
        CHECK.fault("<a>b", 8, 3);
        CHECK.fault("<a>>", 8, 3);
        for (int b = 0; b < 256; b++) {
            boolean stands = b >= 33 && b <= 126 && "<>\"\\^{|}`".indexOf(b) < 0;
            if (stands) {
                CHECK.reads("<a" + (char) b + ">", 2, "<a" + (char) b + ">");
            } else if (b != '>') {
                CHECK.fault("<a" + (char) b + ">", 3, 2);
            }
        }
        CHECK.fault("<" + A59 + "bc>", 4, 61);
        CHECK.fault("<" + A59 + "b<", 4, 61);
        CHECK.fault("<" + A59 + "b ", 4, 61);
        CHECK.fault("<" + A59 + "b", 2, 61);
    }

    private static void wholes() {
        CHECK.reads("0", 3, "0");
        CHECK.reads("-0", 3, "0");
        CHECK.reads("+0", 3, "0");
        CHECK.reads("+007", 3, "7");
        CHECK.reads("-007", 3, "-7");
        CHECK.reads("999999999999999999", 3, "999999999999999999");
        CHECK.reads("-999999999999999999", 3, "-999999999999999999");
        CHECK.reads("+000000000000000000", 3, "0");
        CHECK.fault("+", 2, 1);
        CHECK.fault("-", 2, 1);
        CHECK.fault("+x", 3, 1);
        CHECK.fault("--1", 3, 1);
        CHECK.fault("-+1", 3, 1);
        CHECK.fault("1-", 8, 1);
        CHECK.fault("12e3", 8, 2);
        CHECK.fault("1000000000000000000", 4, 18);
        CHECK.fault("0000000000000000000", 4, 18);
        CHECK.fault("-0000000000000000001", 4, 19);
        CHECK.fault("123456789012345678x", 8, 18);
    }

    private static void decimals() {
        CHECK.reads("1.5", 4, "1.5");
        CHECK.reads("+01.50", 4, "1.5");
        CHECK.reads("-.5", 4, "-0.5");
        CHECK.reads(".0", 4, "0.0");
        CHECK.reads("-0.0", 4, "0.0");
        CHECK.reads("7.00", 4, "7.0");
        CHECK.reads("100.0", 4, "100.0");
        CHECK.reads("-10.010", 4, "-10.01");
        CHECK.reads("0.123456789", 4, "0.123456789");
        CHECK.reads("0.1234567890", 4, "0.123456789");
        CHECK.reads("0.00000000000000000", 4, "0.0");
        CHECK.reads("99999999999999999.9", 4, "99999999999999999.9");
        CHECK.reads("123456789.123456789", 4, "123456789.123456789");
        CHECK.reads(".100000000000000000", 4, "0.1");
        CHECK.fault(".", 2, 1);
        CHECK.fault(".x", 3, 1);
        CHECK.fault("-.", 2, 2);
        CHECK.fault("-.-", 3, 2);
        CHECK.fault("1.", 2, 2);
        CHECK.fault("1.x", 3, 2);
        CHECK.fault("1..2", 3, 2);
        CHECK.fault("1.2.3", 8, 3);
        CHECK.fault("1.2e3", 8, 3);
        CHECK.fault("0.0000000001", 6, 0);
        CHECK.fault("-0.1234567891", 6, 0);
        CHECK.fault("0.1234567891x", 6, 0);
        CHECK.fault("0.12345678901000000", 6, 0);
        CHECK.fault("1234567890.123456789", 4, 19);
        CHECK.fault("-1234567890.123456789", 4, 20);
        CHECK.fault("1.000000000000000000", 4, 19);
        CHECK.fault(".0000000000000000000", 4, 19);
        // What has a 19th digit is no decimal yet that could be too fine.
        CHECK.fault("0.1234567890123456789", 4, 19);
        CHECK.fault("123456789012345678.", 2, 19);
        CHECK.fault("123456789012345678.x", 3, 19);
        CHECK.fault("123456789012345678.0", 4, 19);
    }

    private static void texts() {
        CHECK.reads("\"\"", 5, "\"\"");
        CHECK.reads("\"a b\"", 5, "\"a b\"");
        CHECK.reads("\" ~<>@^\"", 5, "\" ~<>@^\"");
        CHECK.reads("\"\\\"\\\\\\n\\r\\t\"", 5, "\"\\\"\\\\\\n\\r\\t\"");
        CHECK.reads("\"" + X63 + "y\"", 5, "\"" + X63 + "y\"");
        CHECK.reads("\"" + "\\n".repeat(64) + "\"", 5, "\"" + "\\n".repeat(64) + "\"");
        CHECK.fault("\"", 2, 1);
        CHECK.fault("\"a", 2, 2);
        CHECK.fault("\"\\", 2, 2);
        CHECK.fault("\"a\\x\"", 5, 2);
        CHECK.fault("\"\\N\"", 5, 1);
        CHECK.fault("\"\\\u0001\"", 5, 1);
        CHECK.fault("\"\\\u0000\"", 5, 1);
        CHECK.fault("\"a\nb\"", 3, 2);
        CHECK.fault("\"a\u001f\"", 3, 2);
        CHECK.fault("\"a\u007f\"", 3, 2);
        CHECK.fault("\"a\u00ff\"", 3, 2);
        CHECK.fault("\"a\"b", 8, 3);
        CHECK.fault("\"a\"\"", 8, 3);
        CHECK.fault("\"" + X63 + "yz\"", 4, 65);
        CHECK.fault("\"" + X63 + "y\n\"", 4, 65);
        CHECK.fault("\"" + X63 + "y\\n\"", 4, 65);
        CHECK.fault("\"" + X63 + "y\\x\"", 4, 65);
        CHECK.fault("\"" + X63 + "y\\", 4, 65);
        CHECK.fault("\"" + X63 + "y", 2, 65);
        CHECK.fault("\"" + "\\t".repeat(64) + "a\"", 4, 129);
    }

    private static void languages() {
        CHECK.reads("\"a\"@en", 6, "\"a\"@en");
        CHECK.reads("\"A\"@EN-Us", 6, "\"A\"@en-us");
        CHECK.reads("\"a\"@AZaz-AZ09", 6, "\"a\"@azaz-az09");
        CHECK.reads("\"\"@x-1-2b", 6, "\"\"@x-1-2b");
        CHECK.reads("\"a\"@abcdefgh-12345678", 6, "\"a\"@abcdefgh-12345678");
        CHECK.reads("\"a\"@abcdefgh-1234567-xyz", 6, "\"a\"@abcdefgh-1234567-xyz");
        CHECK.fault("\"a\"@", 2, 4);
        CHECK.fault("\"a\"@1", 3, 4);
        CHECK.fault("\"a\"@-", 3, 4);
        CHECK.fault("\"a\"@ en", 3, 4);
        CHECK.fault("\"a\"@en1", 8, 6);
        CHECK.fault("\"a\"@abcdefgh1", 8, 12);
        CHECK.fault("\"a\"@e ", 8, 5);
        CHECK.fault("\"a\"@en ", 8, 6);
        CHECK.fault("\"a\"@en_", 8, 6);
        CHECK.fault("\"a\"@en-", 2, 7);
        CHECK.fault("\"a\"@en-!", 3, 7);
        CHECK.fault("\"a\"@en--", 3, 7);
        CHECK.fault("\"a\"@abcdefghi", 4, 12);
        CHECK.fault("\"a\"@a-123456789", 4, 14);
        CHECK.fault("\"a\"@a-12345678!", 8, 14);
        CHECK.fault("\"a\"@abcdefgh-1234567-xyzq", 4, 24);
        CHECK.fault("\"a\"@abcdefgh-1234567-xyz-", 4, 24);
        CHECK.fault("\"a\"@abcdefgh-1234567-xyz!", 8, 24);
        CHECK.fault("\"a\"@abcdefgh-12345678-x-", 2, 24);
        CHECK.fault("\"a\"@abcdefgh-12345678-x-y", 4, 24);
        CHECK.fault("\"a\"@abcdefgh-12345678-x-!", 4, 24);
    }

    private static void types() {
        CHECK.reads("\"a\"^^<b>", 7, "\"a\"^^<b>");
        CHECK.reads("\"a\\n\"^^<Text>", 7, "\"a\\n\"^^<Text>");
        CHECK.reads("\"5\"^^<wholes>", 7, "\"5\"^^<wholes>");
        CHECK.reads("\"5\"^^<whol>", 7, "\"5\"^^<whol>");
        CHECK.reads("\"" + X63 + "y\"^^<" + A59 + "b>", 7, "\"" + X63 + "y\"^^<" + A59 + "b>");
        String longest = "\"" + "\\\\".repeat(64) + "\"^^<" + A59 + "b>";
        CHECK.reads(longest, 7, longest);
        CHECK.fault("\"a\"^", 2, 4);
        CHECK.fault("\"a\"^x", 3, 4);
        CHECK.fault("\"a\"^^", 2, 5);
        CHECK.fault("\"a\"^^x", 3, 5);
        CHECK.fault("\"a\"^^<", 2, 6);
        CHECK.fault("\"a\"^^<>", 3, 6);
        CHECK.fault("\"a\"^^<b", 2, 7);
        CHECK.fault("\"a\"^^<b c>", 3, 7);
        CHECK.fault("\"a\"^^<" + A59 + "bc>", 4, 66);
        CHECK.fault("\"a\"^^<b>c", 8, 8);
    }

    private static void typesOfOtherKinds() {
        CHECK.reads("\"a\"^^<text>", 5, "\"a\"");
        CHECK.reads("\"\"^^<text>", 5, "\"\"");
        CHECK.reads("\"-012\"^^<whole>", 3, "-12");
        CHECK.reads("\"+.50\"^^<decimal>", 4, "0.5");
        CHECK.reads("\"1.0\"^^<decimal>", 4, "1.0");
        CHECK.reads("\"true\"^^<truth>", 8, "true");
        CHECK.reads("\"false\"^^<truth>", 8, "false");
        CHECK.fault("\"a\"^^<text>b", 8, 11);
        CHECK.fault("\"1\"^^<whole>1", 8, 12);
        CHECK.fault("\"1\"^^<whole", 2, 11);
        CHECK.fault("\"x\"^^<whole", 2, 11);
        for (String text : new String[] {"", "a", "1.0", "1 ", " 1", "1x", "true", "1\\n", "+", "\\\"1\\\"^^<whole>",
            "1000000000000000000", "_:a", "<a>"}) {
            CHECK.fault("\"" + text + "\"^^<whole>", 7, 0);
            CHECK.fault("\"" + text + "\"^^<whole>x", 7, 0);
        }
        for (String text : new String[] {"", "1", "1.", "1.0x", "false", "0.0000000001", "1234567890.123456789"}) {
            CHECK.fault("\"" + text + "\"^^<decimal>", 7, 0);
        }
        for (String text : new String[] {"", "1", "True", "tru", "truex", "true ", "falsetrue"}) {
            CHECK.fault("\"" + text + "\"^^<truth>", 7, 0);
        }
    }

    private static void truths() {
        CHECK.reads("true", 8, "true");
        CHECK.reads("false", 8, "false");
        CHECK.fault("tru", 2, 3);
        CHECK.fault("f", 2, 1);
        CHECK.fault("tRue", 3, 1);
        CHECK.fault("falsy", 3, 4);
        CHECK.fault("truex", 3, 4);
        CHECK.fault("false9", 3, 5);
        CHECK.fault("true_", 3, 4);
        CHECK.fault("true-", 8, 4);
        CHECK.fault("false ", 8, 5);
    }

    private static void oneAndTheSame() {
        TermTable x = new TermTable();
        String[] different = {"_:a", "_:b", "_:A", "<a>", "<b>", "1", "1.0", "-1", "\"a\"", "\"b\"", "\"\"", "\"a\"@en",
            "\"a\"@fr", "\"b\"@en", "\"a\"^^<en>", "\"a\"^^<b>", "\"b\"^^<en>", "true", "false", "0", "0.0", "\"1\"",
            "\"true\"", "0.1", "\"aen\"", "\"\"@aen", "<A>"};
        for (int i = 0; i < different.length; i++) {
            CHECK.due("find " + different[i], Check.find(x, different[i]), TermTable.NO);
            CHECK.due("read " + different[i], Check.read(x, different[i]), i + 1);
        }
        for (int i = 0; i < different.length; i++) {
            CHECK.due("find " + different[i], Check.find(x, different[i]), i + 1);
        }
        String[][] alike = {{"\"a\"@EN", "12"}, {"+01", "6"}, {"1.000", "7"}, {"\"a\"^^<text>", "9"}, {"-0", "20"},
            {"\"1\"^^<whole>", "6"}, {"-.0", "21"}, {"\"false\"^^<truth>", "19"}, {".10", "24"}};
        for (String[] pair : alike) {
            CHECK.due("read " + pair[0], Check.read(x, pair[0]), Integer.parseInt(pair[1]));
        }
        CHECK.due("count", x.count(), different.length);
    }
}
