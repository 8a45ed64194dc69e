import java.util.ArrayList;
import java.util.List;
import java.util.regex.Matcher;
import java.util.regex.Pattern;

/**
 * Every short row of the bytes that matter is read, and all limits with each two such bytes, or any byte, behind them.
 * What is due is not found by reading: it comes from the longest beginning of the row that could still become a term.
 */
public final class EveryRowTest {
    private static final Check CHECK = new Check("EveryRowTest");
    private static final String BYTES = "_:<>\"\\^@-+.05aZtn {\u0080";
    private static final int LONGEST = 4;
    private static final int ROWS_OF_A_TABLE = 13;

    private static final String NAME = "<[!-~&&[^<>\"\\\\^{|}`]]+>";
    private static final String TEXT = "\"(?:[ -~&&[^\"\\\\]]|\\\\[\"\\\\nrt])*\"";
    /** The kinds by their numbers, without their limits: these are counted. */
    private static final Pattern[] KINDS = {
        null,
        Pattern.compile("_:[a-zA-Z0-9_]+"),
        Pattern.compile(NAME),
        Pattern.compile("[-+]?[0-9]+"),
        Pattern.compile("[-+]?[0-9]*\\.[0-9]+"),
        Pattern.compile(TEXT),
        Pattern.compile(TEXT + "@[a-zA-Z]+(?:-[a-zA-Z0-9]+)*"),
        Pattern.compile(TEXT + "\\^\\^" + NAME),
        Pattern.compile("true|false"),
    };

    private TermTable table = new TermTable();
    private int rows = 0;

    public static void main(String[] args) {
        EveryRowTest test = new EveryRowTest();
        for (int length = 0; length <= LONGEST; length++) {
            test.lookBehind("", length);
        }
        for (String stem : stems()) {
            for (int length = 0; length <= 2; length++) {
                test.lookBehind(stem, length);
            }
        }
        for (int b = 0; b < 256; b++) {
            test.lookAtByte((char) b);
        }
        CHECK.end();
    }

    private static List<String> stems() {
        List<String> stems = new ArrayList<>(typedTexts());
        for (int less = 0; less <= 2; less++) {
            stems.addAll(limits(less));
        }
        return stems;
    }

    /** What can just be read before something is too long or done; or so many bytes less. */
    private static List<String> limits(int less) {
        List<String> limits = new ArrayList<>();
        limits.add("_:" + "a".repeat(60 - less));
        limits.add("<" + "a".repeat(60 - less));
        limits.add("\"\"^^<" + "a".repeat(60 - less));
        limits.add("\"" + "a".repeat(64 - less));
        limits.add("\"" + "\\n".repeat(64 - less));
        limits.add("\"\"@" + "a".repeat(8 - less));
        limits.add("\"\"@a-" + "5".repeat(8 - less));
        limits.add("5".repeat(18 - less));
        limits.add("-" + "0".repeat(18 - less));
        limits.add("+." + "0".repeat(18 - less));
        limits.add("-55.55555" + "0".repeat(11 - less));
        limits.add("." + "5".repeat(9 - less));
        List<String> rows = new ArrayList<>(List.of("\"\"@aaaaaaaa-aaaaaaaa-aa", "\"\"@aaaaaa-aaaaaa-aaaaa-",
            "true", "false", "\"a\"^^"));
        for (String type : List.of("text", "whole", "decimal", "truth", "Whole")) {
            rows.add("\"5\"^^<" + type + ">");
            rows.add("\"-.0\"^^<" + type + ">");
            rows.add("\"true\"^^<" + type + ">");
        }
        for (String row : rows) {
            limits.add(row.substring(0, row.length() - less));
        }
        return limits;
    }

    private static List<String> typedTexts() {
        List<String> texts = new ArrayList<>();
        for (String inside : List.of("", "+", "5.", ".", " 5", "5 ", "\\n5", "0.0000000001", "0.0000000000", "tru", "5x",
                "true ", "False", "falsea", "9".repeat(18), "9".repeat(19), "." + "9".repeat(9), "\\\"5\\\"", "_:a")) {
            for (String type : List.of("text", "whole", "decimal", "truth", "other")) {
                texts.add("\"" + inside + "\"^^<" + type + ">");
            }
        }
        return texts;
    }

    private void lookBehind(String stem, int length) {
        if (length == 0) {
            look(stem);
            return;
        }
        for (int i = 0; i < BYTES.length(); i++) {
            lookBehind(stem + BYTES.charAt(i), length - 1);
        }
    }

    private void lookAtByte(char b) {
        for (String stem : stems()) {
            look(stem + b);
        }
        for (String stem : List.of("", "_", "_:", "_:a", "<", "<a", "+", "5", "5.", ".5", "t", "true", "false", "\"",
                "\"a", "\"\\", "\"\"", "\"\"@", "\"\"@a", "\"\"@a-", "\"\"@a-5", "\"\"^", "\"\"^^", "\"\"^^<", "\"\"^^<a")) {
            look(stem + b);
            look(stem + b + ">");
            look(stem + b + "\"");
        }
    }

    private void look(String row) {
        // The longest row has 131 bytes: 17 calls of type, twice, and 4 others, so 13 rows keep to 512 calls.
        if (rows % ROWS_OF_A_TABLE == 0) {
            table = new TermTable();
        }
        rows++;
        int number = Check.read(table, row);
        int place = table.place();
        int due = due(row);
        if (due < 0) {
            CHECK.due("read " + row, number, -100 - (-due & 15));
            CHECK.due("place of " + row, place, -due >> 4);
            return;
        }
        CHECK.due("kind of " + row, table.kind(number), due);
        CHECK.due("place of " + row, place, row.length());
        CHECK.due("find " + row, Check.find(table, row), number);
    }

    private static int fault(int fault, int place) {
        return -(place << 4 | fault);
    }

    /** The kind of the row; or its fault. */
    private static int due(String row) {
        int end = longestBeginning(row);
        String beginning = row.substring(0, end);
        int kind = kindOf(beginning);
        if (kind > 0) {
            return dueOfTerm(row, beginning, kind);
        }
        if (row.isEmpty() || end == 0) {
            return fault(1, 0);
        }
        if (end == row.length()) {
            return fault(2, end);
        }
        // A full name or text has no room for this byte, whether it could stand there or not.
        if (isTooLong(beginning + "a") || isTooLong(beginning + row.charAt(end))) {
            return fault(4, end);
        }
        boolean escapes = beginning.matches("\"(?:[^\\\\]|\\\\.)*\\\\");
        return escapes ? fault(5, end - 1) : fault(3, end);
    }

    private static int dueOfTerm(String row, String term, int kind) {
        int end = term.length();
        boolean behind = end < row.length();
        if (behind && isTooLong(row.substring(0, end + 1))) {
            return fault(4, end);
        }
        if (kind == 4 && isTooFine(term)) {
            return fault(6, 0);
        }
        int meant = kind == 7 ? meantBy(term) : kind;
        if (meant == 0) {
            return fault(7, 0);
        }
        if (behind && kind == 8 && row.substring(end).matches("(?s)[a-zA-Z0-9_].*")) {
            return fault(3, end);
        }
        return behind ? fault(8, end) : meant;
    }

    /** Whether the row is a beginning, but for a limit that it does not keep. */
    private static boolean isTooLong(String row) {
        return isBeginning(row) && !keepsLimits(row);
    }

    private static boolean isTooFine(String decimal) {
        return decimal.replaceAll("0+$", "").replaceAll(".*\\.", "").length() > 9;
    }

    /** The kind that a text with a type has; 0 when it is not what its type says. */
    private static int meantBy(String text) {
        int split = text.lastIndexOf("\"^^<");
        String inside = text.substring(1, split);
        int wanted = switch (text.substring(split + 4, text.length() - 1)) {
            case "text" -> 5;
            case "whole" -> 3;
            case "decimal" -> 4;
            case "truth" -> 8;
            default -> 7;
        };
        if (wanted == 5 || wanted == 7) {
            return wanted;
        }
        boolean such = KINDS[wanted].matcher(inside).matches() && keepsLimits(inside);
        return such && (wanted != 4 || !isTooFine(inside)) ? wanted : 0;
    }

    private static int longestBeginning(String row) {
        int end = 0;
        while (end < row.length() && isBeginning(row.substring(0, end + 1)) && keepsLimits(row.substring(0, end + 1))) {
            end++;
        }
        return end;
    }

    private static int kindOf(String row) {
        for (int kind = 1; kind < KINDS.length; kind++) {
            if (KINDS[kind].matcher(row).matches()) {
                return kind;
            }
        }
        return 0;
    }

    /** Whether bytes behind the row could make it a term, or none have to: hitEnd tells that more was asked for. */
    private static boolean isBeginning(String row) {
        for (int kind = 1; kind < KINDS.length; kind++) {
            Matcher matcher = KINDS[kind].matcher(row);
            if (matcher.matches() || matcher.hitEnd()) {
                return true;
            }
        }
        return false;
    }

    private static boolean keepsLimits(String row) {
        if (row.startsWith("_")) {
            return row.length() <= 62;
        }
        if (row.startsWith("<")) {
            return nameKeepsLimit(row);
        }
        if (!row.startsWith("\"")) {
            return row.replaceAll("[^0-9]", "").length() <= 18;
        }
        Matcher text = KINDS[5].matcher(row);
        if (!text.lookingAt()) {
            return itemsOf(row.substring(1)) <= 64;
        }
        String behind = row.substring(text.end());
        boolean keeps = itemsOf(row.substring(1, text.end() - 1)) <= 64;
        if (behind.startsWith("@")) {
            return keeps && behind.length() <= 21 && !behind.matches(".*[a-zA-Z0-9]{9}.*");
        }
        return keeps && (!behind.startsWith("^^") || nameKeepsLimit(behind.substring(2)));
    }

    private static boolean nameKeepsLimit(String name) {
        return name.replaceAll("[<>]", "").length() <= 60;
    }

    private static int itemsOf(String items) {
        return items.replaceAll("(?s)\\\\.", "n").length();
    }
}
