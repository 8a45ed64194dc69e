/** The section 'Terms' of the document: each sentence with a bound, at the bound and on both sides of it. */
public final class TermBoundaryTest {
    private static final Check CHECK = new Check("TermBoundaryTest");
    private static final String[] SIGNS = {"", "+", "-"};

    public static void main(String[] args) {
        lettersAndDigits();
        blankLengths();
        nameLengths();
        nameBytes();
        wholeDigits();
        decimalWithoutDigitsBefore();
        decimalWithoutDigitsBehind();
        decimalDigitsInAll();
        decimalDigitsBehind();
        textItems();
        textLengths();
        tagFirstRun();
        tagFurtherRuns();
        tagEndsBeforeADigit();
        tagLengths();
        tagCapitals();
        typedTexts();
        typeOfTexts();
        typeOfWholes();
        typeOfDecimals();
        typeOfTruths();
        truthEnds();
        oneAndTheSame();
        leastScale();
        writtenWholes();
        writtenDecimals();
        writtenTexts();
        CHECK.end();
    }

    private static void lettersAndDigits() {
        CHECK.sentence("LETTERS are a .. z, A .. Z; DIGITS 0 .. 9");
        for (int b = 0; b < 256; b++) {
            String text = "_:" + (char) b;
            boolean letter = b >= 97 && b <= 122 || b >= 65 && b <= 90;
            boolean digit = b >= 48 && b <= 57;
            if (letter || digit || b == 95) {
                CHECK.reads(text, 1, text);
            } else {
                CHECK.fault(text, 3, 2);
                CHECK.fault("_:a" + (char) b, 8, 3);
            }
        }
    }

    private static void blankLengths() {
        CHECK.sentence("BLANK (kind 1): _ : and 1 .. 60 letters, digits, _.");
        CHECK.fault("_:", 2, 2);
        CHECK.reads("_:b", 1, "_:b");
        for (String run : new String[] {"a", "Z", "7", "_"}) {
            CHECK.reads("_:" + run.repeat(59), 1, "_:" + run.repeat(59));
            CHECK.reads("_:" + run.repeat(60), 1, "_:" + run.repeat(60));
            CHECK.fault("_:" + run.repeat(61), 4, 62);
            CHECK.fault("_:" + run.repeat(238), 4, 62);
        }
    }

    private static void nameLengths() {
        CHECK.sentence("NAME (kind 2): <, 1 .. 60 bytes .. >");
        CHECK.fault("<>", 3, 1);
        CHECK.reads("<n>", 2, "<n>");
        CHECK.reads(name(59), 2, name(59));
        CHECK.reads(name(60), 2, name(60));
        CHECK.fault(name(61), 4, 61);
        CHECK.fault(name(238), 4, 61);
    }

    private static void nameBytes() {
        CHECK.sentence("bytes 33 .. 126 but none of < > \" \\ ^ { | } and 96");
        for (int b = 0; b < 256; b++) {
            String text = "<" + (char) b + ">";
            boolean none = b == '<' || b == '>' || b == '"' || b == '\\' || b == '^' || b == '{' || b == '|' || b == '}'
                || b == 96;
            if (b >= 33 && b <= 126 && !none) {
                CHECK.reads(text, 2, text);
            } else {
                CHECK.fault(text, 3, 1);
            }
        }
    }

    private static void wholeDigits() {
        CHECK.sentence("WHOLE (kind 3): perhaps + or -, and 1 .. 18 digits.");
        for (String sign : SIGNS) {
            String shown = sign.equals("-") ? "-" : "";
            int start = sign.length();
            CHECK.reads(sign + "1", 3, shown + "1");
            CHECK.reads(sign + "9".repeat(17), 3, shown + "9".repeat(17));
            CHECK.reads(sign + "9".repeat(18), 3, shown + "9".repeat(18));
            CHECK.reads(sign + "0".repeat(17) + "1", 3, shown + "1");
            CHECK.fault(sign + "9".repeat(19), 4, start + 18);
            CHECK.fault(sign + "0".repeat(19), 4, start + 18);
            CHECK.fault(sign + "1".repeat(235), 4, start + 18);
        }
        CHECK.fault("+", 2, 1);
        CHECK.fault("-", 2, 1);
        CHECK.fault("++1", 3, 1);
        CHECK.fault("+-1", 3, 1);
    }

    private static void decimalWithoutDigitsBefore() {
        CHECK.sentence("DECIMAL (kind 4): perhaps + or -, digits (perhaps none), . and digits");
        for (String sign : SIGNS) {
            String shown = sign.equals("-") ? "-" : "";
            CHECK.reads(sign + ".5", 4, shown + "0.5");
            CHECK.reads(sign + "0.5", 4, shown + "0.5");
            CHECK.reads(sign + "00.5", 4, shown + "0.5");
            CHECK.reads(sign + "2.5", 4, shown + "2.5");
        }
    }

    private static void decimalWithoutDigitsBehind() {
        CHECK.sentence("a dot behind digits begins them: without one behind it a 2 or 3");
        for (String sign : SIGNS) {
            for (int digits = 0; digits <= 18; digits++) {
                String before = sign + "1".repeat(digits) + ".";
                CHECK.fault(before, 2, before.length());
                CHECK.fault(before + "x", 3, before.length());
                CHECK.fault(before + ".", 3, before.length());
                CHECK.fault(before + "-1", 3, before.length());
            }
        }
    }

    private static void decimalDigitsInAll() {
        CHECK.sentence("1 .. 18 digits in all");
        CHECK.reads(".1", 4, "0.1");
        CHECK.reads(".0", 4, "0.0");
        for (String sign : SIGNS) {
            String shown = sign.equals("-") ? "-" : "";
            for (int before = 9; before <= 17; before++) {
                String text = "8".repeat(before) + "." + "9".repeat(18 - before);
                CHECK.reads(sign + text, 4, shown + text);
                CHECK.fault(sign + text + "9", 4, sign.length() + 19);
                CHECK.fault(sign + text + "0", 4, sign.length() + 19);
                CHECK.fault(sign + "0" + text, 4, sign.length() + 19);
            }
        }
        CHECK.reads("." + "0".repeat(18), 4, "0.0");
        CHECK.fault("." + "0".repeat(19), 4, 19);
        CHECK.fault("1".repeat(18) + ".1", 4, 19);
        CHECK.fault("1".repeat(18) + ".0", 4, 19);
        CHECK.fault("1".repeat(19) + ".1", 4, 18);
    }

    private static void decimalDigitsBehind() {
        CHECK.sentence("at most 9 behind the dot, when 0s at the end are left off (but for one)");
        CHECK.reads("1.00000001", 4, "1.00000001");
        CHECK.reads("1.000000001", 4, "1.000000001");
        CHECK.fault("1.0000000001", 6, 0);
        CHECK.reads("1.0000000010", 4, "1.000000001");
        CHECK.reads("1.00000000100000000", 4, "1.000000001");
        CHECK.fault("1.00000000010000000", 6, 0);
        CHECK.fault("1.00000000000000001", 6, 0);
        CHECK.reads("1.00000000000000000", 4, "1.0");
        CHECK.reads("10.0000000000", 4, "10.0");
        CHECK.reads("-.000000001000000000", 4, "-0.000000001");
        CHECK.fault("-.000000000100000000", 6, 0);
        CHECK.fault(".000000000000000001", 6, 0);
    }

    private static void textItems() {
        CHECK.sentence("an item is a byte 32 .. 126 but \" and \\, or \\ and one of \" \\ n r t");
        for (int b = 0; b < 256; b++) {
            String alone = "\"" + (char) b + "\"";
            if (b == '"') {
                CHECK.fault(alone, 8, 2);
            } else if (b == '\\') {
                CHECK.fault(alone, 2, 3);
            } else if (b >= 32 && b <= 126) {
                CHECK.reads(alone, 5, alone);
            } else {
                CHECK.fault(alone, 3, 1);
            }
            String behind = "\"\\" + (char) b + "\"";
            if ("\"\\nrt".indexOf(b) >= 0) {
                CHECK.reads(behind, 5, behind);
            } else {
                CHECK.fault(behind, 5, 1);
            }
        }
    }

    private static void textLengths() {
        CHECK.sentence("0 .. 64 items");
        CHECK.reads("\"\"", 5, "\"\"");
        for (String item : new String[] {"x", " ", "\\n", "\\\"", "\\\\"}) {
            for (int items : new int[] {1, 63, 64}) {
                CHECK.reads("\"" + item.repeat(items) + "\"", 5, "\"" + item.repeat(items) + "\"");
            }
            int full = 1 + 64 * item.length();
            CHECK.fault("\"" + item.repeat(65) + "\"", 4, full);
            CHECK.fault("\"" + item.repeat(64), 2, full);
            CHECK.fault("\"" + item.repeat(65), 4, full);
            CHECK.fault("\"" + item.repeat(64) + "\u0007", 4, full);
        }
    }

    private static void tagFirstRun() {
        CHECK.sentence("a TAG: 1 .. 8 letters");
        CHECK.fault("\"\"@", 2, 3);
        for (String wrong : new String[] {"-", "1", "_", "@", "[", "`", "{", " ", "\""}) {
            CHECK.fault("\"\"@" + wrong, 3, 3);
        }
        for (int letters = 1; letters <= 8; letters++) {
            CHECK.reads("\"\"@" + "z".repeat(letters), 6, "\"\"@" + "z".repeat(letters));
        }
        CHECK.fault("\"\"@" + "z".repeat(9), 4, 11);
        CHECK.fault("\"\"@" + "z".repeat(20), 4, 11);
        CHECK.fault("\"\"@" + "z".repeat(230), 4, 11);
    }

    private static void tagFurtherRuns() {
        CHECK.sentence("perhaps (again) - and 1 .. 8 letters or digits");
        CHECK.fault("\"\"@a-", 2, 5);
        for (String wrong : new String[] {"-", "_", "/", ":", "@", "[", "`", "{", " "}) {
            CHECK.fault("\"\"@a-" + wrong, 3, 5);
            CHECK.fault("\"\"@a-b" + wrong, wrong.equals("-") ? 2 : 8, wrong.equals("-") ? 7 : 6);
        }
        for (int more = 1; more <= 8; more++) {
            CHECK.reads("\"\"@a-" + "0".repeat(more), 6, "\"\"@a-" + "0".repeat(more));
            CHECK.reads("\"\"@a-b-" + "z9".repeat(4).substring(0, more), 6, "\"\"@a-b-" + "z9z9z9z9".substring(0, more));
        }
        CHECK.fault("\"\"@a-" + "0".repeat(9), 4, 13);
        CHECK.fault("\"\"@a-" + "z".repeat(9), 4, 13);
        CHECK.fault("\"\"@a-b-" + "z".repeat(9), 4, 15);
        CHECK.reads("\"\"@a-b-c-d-e-f-g-h-i-j", 6, "\"\"@a-b-c-d-e-f-g-h-i-j");
    }

    private static void tagEndsBeforeADigit() {
        CHECK.sentence("it ends before what can't go on with it: a digit in the first run");
        for (int letters = 1; letters <= 8; letters++) {
            for (String behind : new String[] {"0", "9", "_", " ", "\"", "^^<a>", "@a"}) {
                CHECK.fault("\"\"@" + "a".repeat(letters) + behind, 8, 3 + letters);
            }
        }
        CHECK.fault("\"\"@a1-b", 8, 4);
        CHECK.fault("\"\"@a-12345678_", 8, 13);
    }

    private static void tagLengths() {
        CHECK.sentence("at most 20 bytes");
        String nineteen = "abcdefgh-1234567-ab";
        String twenty = "abcdefgh-1234567-abc";
        CHECK.reads("\"\"@" + nineteen, 6, "\"\"@" + nineteen);
        CHECK.reads("\"\"@" + twenty, 6, "\"\"@" + twenty);
        for (String more : new String[] {"d", "D", "4", "-", "-d", "defgh"}) {
            CHECK.fault("\"\"@" + twenty + more, 4, 23);
        }
        CHECK.fault("\"\"@" + twenty + "_", 8, 23);
        CHECK.fault("\"\"@" + nineteen + "-", 2, 23);
        for (String more : new String[] {"d", "4", "-", "_", " "}) {
            CHECK.fault("\"\"@" + nineteen + "-" + more, 4, 23);
        }
        // Its last byte of 20 is the 8th of a run: both bounds are met at once.
        CHECK.reads("\"\"@abc-1234567-abcdefgh", 6, "\"\"@abc-1234567-abcdefgh");
        CHECK.fault("\"\"@abc-1234567-abcdefghi", 4, 23);
        CHECK.fault("\"\"@abc-1234567-abcdefgh!", 8, 23);
    }

    private static void tagCapitals() {
        CHECK.sentence("of which capitals become small");
        CHECK.reads("\"AZ\"@AZ-MN09", 6, "\"AZ\"@az-mn09");
        TermTable x = new TermTable();
        CHECK.due("read @De-aT", Check.read(x, "\"A\"@De-aT"), 1);
        CHECK.due("read @dE-At", Check.read(x, "\"A\"@dE-At"), 1);
        CHECK.due("find @de-at", Check.find(x, "\"A\"@de-at"), 1);
        CHECK.due("find a@de-at", Check.find(x, "\"a\"@de-at"), TermTable.NO);
        CHECK.due("the tag", Check.written(x, x.part(1, 1)), "\"de-at\"");
    }

    private static void typedTexts() {
        CHECK.sentence("TEXT WITH A TYPE (kind 7): a text, ^ ^ and a NAME");
        CHECK.reads("\"\"^^<a>", 7, "\"\"^^<a>");
        CHECK.reads("\"\"^^" + name(60), 7, "\"\"^^" + name(60));
        String most = "\"" + "\\t".repeat(64) + "\"^^" + name(60);
        CHECK.reads(most, 7, most);
        CHECK.fault("\"\"^^<>", 3, 5);
        CHECK.fault("\"\"^^" + name(61), 4, 65);
        CHECK.fault("\"\"^", 2, 3);
        CHECK.fault("\"\"^<a>", 3, 3);
        CHECK.fault("\"\"^^", 2, 4);
        CHECK.fault("\"\"^^^<a>", 3, 4);
        CHECK.fault("\"\"^^<a", 2, 6);
        CHECK.fault("\"\"^^<a>@en", 8, 7);
        for (String near : new String[] {"Text", "tex", "texts", "Whole", "whol", "wholes", "Decimal", "decima", "decimals",
            "Truth", "trut", "truths"}) {
            CHECK.reads("\"\"^^<" + near + ">", 7, "\"\"^^<" + near + ">");
        }
    }

    private static void typeOfTexts() {
        CHECK.sentence("but of the name <text> it is the text alone");
        CHECK.reads("\"\"^^<text>", 5, "\"\"");
        CHECK.reads("\"7\"^^<text>", 5, "\"7\"");
        String most = "\"" + "\\r".repeat(64) + "\"";
        CHECK.reads(most + "^^<text>", 5, most);
        TermTable x = new TermTable();
        CHECK.due("read of the text", Check.read(x, "\"a\""), 1);
        CHECK.due("read with <text>", Check.read(x, "\"a\"^^<text>"), 1);
        CHECK.due("used", x.used(), 1);
        CHECK.due("part(1, 2)", x.part(1, 2), TermTable.NO);
    }

    private static void typeOfWholes() {
        CHECK.sentence("of <whole> .. it is what its bytes are read as (which are to be such a one, and nothing else)");
        CHECK.reads("\"+" + "0".repeat(18) + "\"^^<whole>", 3, "0");
        CHECK.reads("\"-" + "9".repeat(18) + "\"^^<whole>", 3, "-" + "9".repeat(18));
        refusesAsType("whole", "", "+", "9".repeat(19), "1.", "1.0", ".5", "1 ", " 1", "1\\n", "true", "x", "_:a", "\\\"1\\\"");
        TermTable x = new TermTable();
        CHECK.due("read of the text", Check.read(x, "\"-07\"^^<whole>"), 1);
        CHECK.due("read of the number", Check.read(x, "-7"), 1);
        CHECK.due("value", x.value(1), -7);
        CHECK.due("used", x.used(), 0);
    }

    private static void typeOfDecimals() {
        CHECK.sentence("of .. <decimal> .. it is what its bytes are read as (which are to be such a one, and nothing else)");
        CHECK.reads("\"-.000000001\"^^<decimal>", 4, "-0.000000001");
        CHECK.reads("\"1.00000000000000000\"^^<decimal>", 4, "1.0");
        CHECK.reads("\"" + "9".repeat(17) + ".9\"^^<decimal>", 4, "9".repeat(17) + ".9");
        refusesAsType("decimal", "", ".", "1", "1.", "-1", "0.0000000001", "1".repeat(18) + ".0", "1.0.", "1.0 ", "false");
        TermTable x = new TermTable();
        CHECK.due("read of the text", Check.read(x, "\"+2.50\"^^<decimal>"), 1);
        CHECK.due("decimal(25, 1)", x.decimal(25, 1), 1);
        CHECK.due("used", x.used(), 0);
    }

    private static void typeOfTruths() {
        CHECK.sentence("of .. <truth> it is what its bytes are read as (which are to be such a one, and nothing else)");
        CHECK.reads("\"true\"^^<truth>", 8, "true");
        CHECK.reads("\"false\"^^<truth>", 8, "false");
        refusesAsType("truth", "", "t", "tru", "truee", "true_", "true ", " true", "TRUE", "1", "0", "falsefalse");
        TermTable x = new TermTable();
        CHECK.due("read of the text", Check.read(x, "\"true\"^^<truth>"), 1);
        CHECK.due("read of the truth", Check.read(x, "true"), 1);
        CHECK.due("used", x.used(), 0);
    }

    private static void refusesAsType(String type, String... texts) {
        for (String text : texts) {
            CHECK.fault("\"" + text + "\"^^<" + type + ">", 7, 0);
        }
    }

    private static void truthEnds() {
        CHECK.sentence("TRUTH (kind 8): true or false, no letter, digit or _ behind it.");
        for (String truth : new String[] {"true", "false"}) {
            CHECK.reads(truth, 8, truth);
            for (int length = 1; length < truth.length(); length++) {
                CHECK.fault(truth.substring(0, length), 2, length);
                CHECK.fault(truth.substring(0, length) + "x", 3, length);
                CHECK.fault(truth.substring(0, length) + truth.toUpperCase().charAt(length), 3, length);
            }
            for (int b = 0; b < 256; b++) {
                boolean word = b >= '0' && b <= '9' || b >= 'A' && b <= 'Z' || b >= 'a' && b <= 'z' || b == '_';
                CHECK.fault(truth + (char) b, word ? 3 : 8, truth.length());
            }
        }
    }

    private static void oneAndTheSame() {
        CHECK.sentence("Two terms are one and the same when they have the same kind and: .. the same bytes (tags and types, too); "
            + "numbers the same value; truths alike.");
        String[] groups = {"_:a", "_:A", "_:a_", "<a>", "<A>", "1 +1 01 \"1\"^^<whole>", "1.0 +01.00 \"1.0\"^^<decimal>",
            "0 -0 +0 00", "0.0 -0.0 .0 -.00", "-1", "-1.0", "10", "0.1 .10 +.1", "\"a\" \"a\"^^<text>", "\"A\"", "\"\"",
            "\"a\"@a \"a\"@A", "\"a\"@a-a \"a\"@A-A", "\"A\"@a", "\"\"@aa", "\"a\"^^<a>", "\"a\"^^<A>", "\"\"^^<aa>", "true", "false"};
        TermTable x = new TermTable();
        for (int i = 0; i < groups.length; i++) {
            for (String text : groups[i].split(" ")) {
                CHECK.due("read " + text, Check.read(x, text), i + 1);
            }
        }
        CHECK.due("count", x.count(), groups.length);
    }

    private static void leastScale() {
        CHECK.sentence("The VALUE of a decimal is UNSCALED / 10^SCALE, with the least scale (0 .. 9).");
        String[] texts = {"5.0", "50.0", "0.0", "-5.00", "0.5", ".000000005", "0.0000000050", "-12.3450", "1000000000.0"};
        long[] unscaled = {5, 50, 0, -5, 5, 5, 5, -12345, 1000000000};
        int[] scales = {0, 0, 0, 0, 1, 9, 9, 3, 0};
        for (int i = 0; i < texts.length; i++) {
            TermTable x = new TermTable();
            CHECK.due("read " + texts[i], Check.read(x, texts[i]), 1);
            CHECK.due("value of " + texts[i], x.value(1), unscaled[i]);
            CHECK.due("scale of " + texts[i], x.scale(1), scales[i]);
        }
    }

    private static void writtenWholes() {
        CHECK.sentence("wholes without + and without 0s before (-0 is 0)");
        CHECK.reads("+7", 3, "7");
        CHECK.reads("007", 3, "7");
        CHECK.reads("+00", 3, "0");
        CHECK.reads("-0", 3, "0");
        CHECK.reads("-" + "0".repeat(18), 3, "0");
        CHECK.reads("-00700", 3, "-700");
    }

    private static void writtenDecimals() {
        CHECK.sentence("with a digit at least on each side of the dot, and otherwise none that could be left off (0.0 without -)");
        CHECK.reads("+.7", 4, "0.7");
        CHECK.reads("-007.700", 4, "-7.7");
        CHECK.reads("700.0", 4, "700.0");
        CHECK.reads("-.0", 4, "0.0");
        CHECK.reads("-000.000", 4, "0.0");
        CHECK.reads("-0.001", 4, "-0.001");
        CHECK.reads("0.010", 4, "0.01");
        TermTable x = new TermTable();
        CHECK.due("-1 at 9", Check.written(x, x.decimal(-1, 9)), "-0.000000001");
        CHECK.due("10^9 at 9", Check.written(x, x.decimal(1000000000, 9)), "1.0");
        CHECK.due("10^8 at 9", Check.written(x, x.decimal(100000000, 9)), "0.1");
        CHECK.due("0 at 9", Check.written(x, x.decimal(0, 9)), "0.0");
        CHECK.due("the longest", Check.written(x, x.decimal(-999999999999999999L, 0)), "-999999999999999999.0");
    }

    private static void writtenTexts() {
        CHECK.sentence("texts with \\ before \" and \\, and \\n \\r \\t for their bytes; tags, types behind");
        String items = "\\\"\\\\\\n\\r\\tnrt'/ ~";
        CHECK.reads("\"" + items + "\"", 5, "\"" + items + "\"");
        CHECK.reads("\"" + items + "\"@A-1", 6, "\"" + items + "\"@a-1");
        CHECK.reads("\"" + items + "\"^^<A-1>", 7, "\"" + items + "\"^^<A-1>");
        TermTable x = new TermTable();
        Check.read(x, "\"" + "\\\\".repeat(64) + "\"^^" + name(60));
        CHECK.due("write of the longest", x.write(1), 194);
        CHECK.due("written(193)", x.written(193), '>');
        CHECK.due("written(194)", x.written(194), TermTable.BAD);
    }

    private static String name(int length) {
        return "<" + "n".repeat(length) + ">";
    }
}
