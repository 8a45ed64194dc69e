/** FAULTS and FULL of the document: each fault alone, and which one is told where two could be. */
public final class FaultBoundaryTest {
    private static final Check CHECK = new Check("FaultBoundaryTest");
    private static final String NAME60 = "n".repeat(60);
    private static final String TEXT64 = "t".repeat(64);
    private static final String TAG20 = "abcdefgh-1234567-abc";

    public static void main(String[] args) {
        nothingBegins();
        rowEnds();
        everyBeginningOfATerm();
        bytesThatCannotStand();
        byteTooMany();
        tooManyAndWrong();
        noItem();
        tooFine();
        notItsType();
        bytesBehind();
        firstByPlace();
        fullOfTerms();
        fullOfBytes();
        CHECK.end();
    }

    private static void nothingBegins() {
        CHECK.sentence("1 nothing is there, or a byte with which no term begins.");
        CHECK.fault("", 1, 0);
        for (int b = 0; b < 256; b++) {
            if ("_<+-.0123456789\"tf".indexOf(b) < 0) {
                CHECK.fault((char) b + "", 1, 0);
                CHECK.fault((char) b + "1", 1, 0);
            }
        }
    }

    private static void rowEnds() {
        CHECK.sentence("2 the row ends where more is to come: its length.");
        for (String text : new String[] {"_", "_:", "<", "<a", "<" + NAME60, "+", "-", ".", "+.", "1.", "-" + "1".repeat(18) + ".",
            "\"", "\"a", "\"" + TEXT64, "\"\\", "\"a\\", "\"a\"@", "\"a\"@b-", "\"a\"@abcdefgh-12345678-a-", "\"a\"^", "\"a\"^^",
            "\"a\"^^<", "\"a\"^^<a", "\"a\"^^<" + NAME60, "\"x\"^^<whole", "t", "tru", "f", "fals"}) {
            CHECK.fault(text, 2, text.length());
        }
    }

    private static void everyBeginningOfATerm() {
        CHECK.sentence("2 the row ends where more is to come: its length.");
        for (String term : new String[] {"_:a", "<ab>", "-.5", "\"a\\n\\\"b\"", "\"\"^^<ab>", "true", "false"}) {
            for (int length = 1; length < term.length(); length++) {
                String beginning = term.substring(0, length);
                if (!beginning.equals("\"\"")) {
                    CHECK.fault(beginning, 2, length);
                }
            }
        }
    }

    private static void bytesThatCannotStand() {
        CHECK.sentence("3 a byte that can't stand there.");
        String[][] beginnings = {{"_", "x_<"}, {"_:", "-: "}, {"<", "<> "}, {"<a", "<{ \u007f"}, {"+", "x-+"}, {"-", "x-+"},
            {".", "x.-"}, {"1.", "x.-"}, {"+1.", "x.-"}, {"\"", "\n\u007f"}, {"\"a", "\u0000\u001f\u0080\u00ff"},
            {"\"\"@", "1- "}, {"\"\"@a-", "-_ "}, {"\"\"^", "<a"}, {"\"\"^^", "a^"}, {"\"\"^^<", "> "}, {"\"\"^^<a", "\" "},
            {"t", "Rf1"}, {"tr", "xU"}, {"tru", "E "}, {"true", "eZ9_"}, {"f", "At"}, {"fa", "L"}, {"fal", "S"}, {"fals", "E"},
            {"false", "eZ9_"}};
        for (String[] pair : beginnings) {
            for (char wrong : pair[1].toCharArray()) {
                CHECK.fault(pair[0] + wrong, 3, pair[0].length());
                CHECK.fault(pair[0] + wrong + ">", 3, pair[0].length());
            }
        }
    }

    private static void byteTooMany() {
        CHECK.sentence("4 a byte too many (of a name, blank, tag, run of a tag, text; at it; the 19th digit)");
        CHECK.fault("<" + NAME60 + "n>", 4, 61);
        CHECK.fault("\"\"^^<" + NAME60 + "n>", 4, 65);
        CHECK.fault("_:" + NAME60 + "n", 4, 62);
        CHECK.fault("\"\"@" + TAG20 + "d", 4, 23);
        CHECK.fault("\"\"@" + TAG20 + "-", 4, 23);
        CHECK.fault("\"\"@abcdefghi", 4, 11);
        CHECK.fault("\"\"@a-123456789", 4, 13);
        CHECK.fault("\"" + TEXT64 + "t\"", 4, 65);
        CHECK.fault("\"" + TEXT64 + "\\n\"", 4, 65);
        CHECK.fault("1".repeat(19), 4, 18);
        CHECK.fault("-" + "1".repeat(9) + "." + "1".repeat(10), 4, 20);
    }

    private static void tooManyAndWrong() {
        CHECK.sentence("4 .. be it one that can't stand there.");
        for (int b = 0; b < 256; b++) {
            if (b != '>') {
                CHECK.fault("<" + NAME60 + (char) b, 4, 61);
                CHECK.fault("\"\"^^<" + NAME60 + (char) b, 4, 65);
            }
            if (b != '"') {
                CHECK.fault("\"" + TEXT64 + (char) b, 4, 65);
            }
            CHECK.fault("\"\"@abcdefgh-12345678-a-" + (char) b, 4, 23);
        }
        CHECK.fault("\"" + TEXT64 + "\\x\"", 4, 65);
    }

    private static void noItem() {
        CHECK.sentence("5 \\ and what is no item, at the \\.");
        for (int b = 0; b < 256; b++) {
            if ("\"\\nrt".indexOf(b) < 0) {
                CHECK.fault("\"\\" + (char) b, 5, 1);
                CHECK.fault("\"ab\\\\\\" + (char) b + "\"", 5, 5);
            }
        }
        CHECK.fault("\"" + "t".repeat(63) + "\\x\"", 5, 64);
    }

    private static void tooFine() {
        CHECK.sentence("6 a decimal with more than 9 digits behind the dot that can't be left off, at its first byte.");
        for (String sign : new String[] {"", "+", "-"}) {
            for (String text : new String[] {".0000000001", "0.0000000001", "00000000.0000000001", ".000000000000000001",
                "1.00000000010000000", "1.1234567891"}) {
                CHECK.fault(sign + text, 6, 0);
            }
            CHECK.reads(sign + "0.1234567890", 4, (sign.equals("-") ? "-" : "") + "0.123456789");
        }
    }

    private static void notItsType() {
        CHECK.sentence("7 a text that is not what its type says, at its first byte.");
        for (String type : new String[] {"whole", "decimal", "truth"}) {
            for (String text : new String[] {"", " ", "x", "_:a", "<a>", "\\n", "+", ".", "t", "1.0000000001", "1".repeat(19),
                "1 ", "1.0 ", "true ", TEXT64}) {
                CHECK.fault("\"" + text + "\"^^<" + type + ">", 7, 0);
            }
        }
        CHECK.fault("\"1.0\"^^<whole>", 7, 0);
        CHECK.fault("\"true\"^^<whole>", 7, 0);
        CHECK.fault("\"1\"^^<decimal>", 7, 0);
        CHECK.fault("\"false\"^^<decimal>", 7, 0);
        CHECK.fault("\"1\"^^<truth>", 7, 0);
        CHECK.fault("\"1.0\"^^<truth>", 7, 0);
    }

    private static void bytesBehind() {
        CHECK.sentence("8 bytes behind it, at the first one.");
        for (String term : new String[] {"_:a", "_:" + NAME60, "<a>", "<" + NAME60 + ">", "1", "1".repeat(18), "-1.5",
            "1".repeat(9) + "." + "1".repeat(9), "\"\"", "\"" + TEXT64 + "\"", "\"\"@a", "\"\"@abcdefgh", "\"\"@a-12345678", "\"\"@" + TAG20,
            "\"\"^^<a>", "\"\"^^<text>", "\"1\"^^<whole>", "\"1.5\"^^<decimal>", "\"true\"^^<truth>", "true", "false"}) {
            for (String behind : new String[] {" ", "\n", "\u0000", "\u00ff", "<", "\"", "  x", "<a>"}) {
                CHECK.fault(term + behind, 8, term.length());
            }
        }
        CHECK.fault("1" + "+".repeat(239), 8, 1);
    }

    private static void firstByPlace() {
        CHECK.sentence("FAULTS in reading, the first one, by its place (from 0)");
        CHECK.fault("<a b c", 3, 2);
        CHECK.fault("\"\\x\n", 5, 1);
        CHECK.fault("\"\n\\x", 3, 1);
        CHECK.fault("\"\\x\"^^<>", 5, 1);
        CHECK.fault("1.00000000001x", 6, 0);
        CHECK.fault("1.00000000001.1", 6, 0);
        CHECK.fault("\"x\"^^<whole>x", 7, 0);
        CHECK.fault("\"x\"^^<decimal>x", 7, 0);
        CHECK.fault("\"x\"^^<truth>x", 7, 0);
        CHECK.fault("\"x\"^^<whole", 2, 11);
        CHECK.fault("\"x\"^^<whole <", 3, 11);
        CHECK.fault("\"a\"b\n", 8, 3);
    }

    /** 512 calls can't fill the table; what stands here holds beyond them all the same. */
    private static void fullOfTerms() {
        CHECK.sentence("FULL: no room: the table has 2000 terms");
        TermTable x = new TermTable();
        Check.read(x, "\"a\"^^<b>");
        Check.read(x, "\"a\"@b");
        for (int i = 3; i <= 1999; i++) {
            x.whole(i);
        }
        CHECK.due("term 2000", x.decimal(1, 1), 2000);
        CHECK.due("whole", x.whole(1), TermTable.FULL);
        CHECK.due("decimal", x.decimal(1, 2), TermTable.FULL);
        CHECK.due("part 0", x.part(1, 0), TermTable.FULL);
        CHECK.due("part 1", x.part(2, 1), TermTable.FULL);
        CHECK.due("part 2", x.part(1, 2), TermTable.FULL);
        CHECK.due("read", Check.read(x, "false"), TermTable.FULL);
        CHECK.due("the tape is empty then", x.type('3', 1), 1);
        CHECK.due("read of what is there", x.read(), 3);
        CHECK.due("find of none", Check.find(x, "false"), TermTable.NO);
        CHECK.due("kind(2000)", x.kind(2000), 4);
        CHECK.due("kind(2001)", x.kind(2001), TermTable.BAD);
        CHECK.due("count", x.count(), 2000);
        CHECK.due("used", x.used(), 4);
    }

    private static void fullOfBytes() {
        CHECK.sentence("FULL: no room: .. or 40000 bytes of blanks, names, tags, texts");
        TermTable x = new TermTable();
        for (int i = 0; i < 399; i++) {
            Check.read(x, "\"" + (1000 + i) + "t".repeat(36) + "\"^^<" + NAME60 + ">");
        }
        CHECK.due("used", x.used(), 39900);
        CHECK.due("read of 60", Check.read(x, "<" + NAME60 + ">"), 400);
        CHECK.due("read of 41", Check.read(x, "_:" + "a".repeat(41)), TermTable.FULL);
        CHECK.due("read of 40 and 1", Check.read(x, "\"" + "a".repeat(40) + "\"@a"), TermTable.FULL);
        CHECK.due("part of 40", x.part(1, 0), 401);
        CHECK.due("used to the last byte", x.used(), 40000);
        CHECK.due("read of 1", Check.read(x, "<a>"), TermTable.FULL);
        CHECK.due("read of none", Check.read(x, "\"\""), 402);
        CHECK.due("whole", x.whole(1), 403);
        CHECK.due("decimal", x.decimal(1, 1), 404);
        CHECK.due("part that is there", x.part(1, 2), 400);
        CHECK.due("part that is not", x.part(2, 0), TermTable.FULL);
        CHECK.due("count", x.count(), 404);
        CHECK.due("used in the end", x.used(), 40000);
    }
}
