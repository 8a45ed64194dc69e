import java.math.BigDecimal;
import java.util.ArrayList;
import java.util.List;
import java.util.Random;
import java.util.regex.Matcher;
import java.util.regex.Pattern;

/** All promises in random runs of 512 calls, the same ones each time, against a second model made of patterns. */
public final class ModelTest {
    private static final Check CHECK = new Check("ModelTest");
    private static final int RUNS = 3000;
    /** A write, each of the 194 bytes of the longest term, and three places without a byte. */
    private static final int MOST_CALLS_OF_A_STEP = 198;

    public static void main(String[] args) {
        for (int seed = 1; seed <= RUNS; seed++) {
            new ModelTest(seed).run();
        }
        CHECK.end();
    }

    /** What a row of bytes is: a term (fault 0) or a fault. */
    private record Parsed(int fault, int place, Term term) {
        static Parsed fault(int fault, int place) {
            return new Parsed(fault, place, null);
        }
    }

    /** Terms are one and the same when they are written alike. */
    private record Term(int kind, BigDecimal number, String text, String tail) {
        String written() {
            return switch (kind) {
                case 1 -> "_:" + text;
                case 2 -> "<" + text + ">";
                case 3 -> number.toBigInteger().toString();
                case 4 -> number.setScale(Math.max(1, least().scale())).toPlainString();
                case 8 -> number.signum() == 0 ? "false" : "true";
                default -> quoted() + (kind == 6 ? "@" + tail : kind == 7 ? "^^<" + tail + ">" : "");
            };
        }

        String quoted() {
            String inside = text.replace("\\", "\\\\").replace("\"", "\\\"");
            return "\"" + inside.replace("\n", "\\n").replace("\r", "\\r").replace("\t", "\\t") + "\"";
        }

        BigDecimal least() {
            BigDecimal stripped = number.stripTrailingZeros();
            return stripped.scale() < 0 ? stripped.setScale(0) : stripped;
        }

        int bytes() {
            return text.length() + tail.length();
        }

        int sort() {
            return kind == 4 ? 3 : kind;
        }
    }

    private final Random random;
    private final TermTable table = new TermTable();
    private final List<Term> terms = new ArrayList<>();
    private final int seed;
    private String latest = "";
    private int place = 0;
    private int calls = 0;

    private ModelTest(int seed) {
        this.seed = seed;
        random = new Random(seed);
    }

    private void run() {
        while (calls < 512 - MOST_CALLS_OF_A_STEP) {
            step();
        }
    }

    private void due(String call, long got, long want) {
        calls++;
        CHECK.due("run " + seed + ": " + call, got, want);
    }

    private void step() {
        int a = anyTerm();
        int b = anyTerm();
        Term one = term(a);
        switch (random.nextInt(14)) {
            case 0, 1, 2 -> stepTape();
            case 3 -> stepWhole(number());
            case 4 -> stepDecimal(number(), random.nextInt(12) - 1);
            case 5 -> due("count()", table.count(), terms.size());
            case 6 -> due("used()", table.used(), terms.stream().mapToInt(Term::bytes).sum());
            case 7 -> due("kind(" + a + ")", table.kind(a), one == null ? -1 : one.kind);
            case 8 -> stepValue(a, one);
            case 9 -> stepWrite(a, one);
            case 10 -> stepPart(a, one, random.nextInt(5) - 1);
            case 11 -> due("order(" + a + ", " + b + ")", table.order(a, b), order(one, term(b)));
            case 12 -> due("same(" + a + ", " + b + ")", table.same(a, b), same(one, term(b)));
            default -> due("less(" + a + ", " + b + ")", table.less(a, b), less(one, term(b)));
        }
    }

    private int anyTerm() {
        return random.nextInt(40) == 0 ? random.nextInt() : random.nextInt(terms.size() + 2);
    }

    private Term term(int number) {
        return number < 1 || number > terms.size() ? null : terms.get(number - 1);
    }

    private int numberOf(Term term) {
        for (int i = 0; i < terms.size(); i++) {
            if (terms.get(i).kind == term.kind && terms.get(i).written().equals(term.written())) {
                return i + 1;
            }
        }
        return TermTable.NO;
    }

    private int keep(Term term) {
        if (numberOf(term) == TermTable.NO) {
            terms.add(term);
        }
        return numberOf(term);
    }

    private void stepTape() {
        String text = new TextMaker(random).make();
        calls += (text.length() + 7) / 8;
        Check.type(table, text);
        Parsed parsed = parse(text);
        boolean reads = random.nextInt(3) > 0;
        int got = reads ? table.read() : table.find();
        int want = parsed.fault > 0 ? -100 - parsed.fault : reads ? keep(parsed.term) : numberOf(parsed.term);
        place = parsed.fault > 0 ? parsed.place : text.length();
        due((reads ? "read " : "find ") + text, got, want);
        due("place of " + text, table.place(), place);
    }

    private long number() {
        long small = random.nextInt(41) - 20;
        return switch (random.nextInt(4)) {
            case 0 -> small;
            case 1 -> small * (long) Math.pow(10, random.nextInt(17));
            case 2 -> random.nextLong() >> random.nextInt(63);
            default -> (random.nextBoolean() ? 1 : -1) * (999999999999999990L + random.nextInt(12));
        };
    }

    private void stepWhole(long v) {
        boolean bad = Math.abs(v) > 999999999999999999L || v == Long.MIN_VALUE;
        Term made = new Term(3, BigDecimal.valueOf(v), "", "");
        due("whole(" + v + ")", table.whole(v), bad ? TermTable.BAD : keep(made));
    }

    private void stepDecimal(long unscaled, int scale) {
        boolean bad = Math.abs(unscaled) > 999999999999999999L || unscaled == Long.MIN_VALUE || scale < 0 || scale > 9;
        Term made = new Term(4, BigDecimal.valueOf(unscaled, scale), "", "");
        due("decimal(" + unscaled + ", " + scale + ")", table.decimal(unscaled, scale), bad ? -1 : keep(made));
    }

    private void stepValue(int a, Term one) {
        boolean decimal = one != null && one.kind == 4;
        long value = one == null ? 0 : decimal ? one.least().unscaledValue().longValue() : one.number.longValue();
        due("value(" + a + ")", table.value(a), value);
        due("scale(" + a + ")", table.scale(a), one == null ? -1 : decimal ? one.least().scale() : 0);
    }

    private void stepWrite(int a, Term one) {
        due("write(" + a + ")", table.write(a), one == null ? -1 : one.written().length());
        latest = one == null ? latest : one.written();
        calls += latest.length();
        CHECK.due("run " + seed + ": written of " + a, Check.latest(table, latest.length()), latest);
        for (int i : new int[] {-1, latest.length(), random.nextInt()}) {
            if (i < 0 || i >= latest.length()) {
                due("written(" + i + ")", table.written(i), TermTable.BAD);
            }
        }
    }

    private void stepPart(int a, Term one, int what) {
        int want = TermTable.NO;
        if (one == null) {
            want = TermTable.BAD;
        } else if (what == 0 && one.kind >= 5 && one.kind <= 7) {
            want = keep(new Term(5, BigDecimal.ZERO, one.text, ""));
        } else if (what == 1 && one.kind == 6) {
            want = keep(new Term(5, BigDecimal.ZERO, one.tail, ""));
        } else if (what == 2 && one.kind == 7) {
            want = keep(new Term(2, BigDecimal.ZERO, one.tail, ""));
        }
        due("part(" + a + ", " + what + ")", table.part(a, what), want);
    }

    private static int order(Term one, Term other) {
        if (one == null || other == null) {
            return 2;
        }
        int[] steps = {one.sort() - other.sort(), one.number.compareTo(other.number), one.kind - other.kind,
            one.text.compareTo(other.text), one.tail.compareTo(other.tail)};
        for (int step : steps) {
            if (step != 0) {
                return Integer.signum(step);
            }
        }
        return 0;
    }

    private static int same(Term one, Term other) {
        if (one == null || other == null) {
            return 2;
        }
        if (one.sort() == 3 && other.sort() == 3) {
            return one.number.compareTo(other.number) == 0 ? 1 : 0;
        }
        if (one.kind == other.kind && one.written().equals(other.written())) {
            return 1;
        }
        boolean typed = one.kind == 7 && other.kind >= 3 || other.kind == 7 && one.kind >= 3;
        return typed ? 2 : 0;
    }

    private static int less(Term one, Term other) {
        if (one == null || other == null || one.sort() != other.sort()) {
            return 2;
        }
        return switch (one.kind) {
            case 3, 4, 8 -> one.number.compareTo(other.number) < 0 ? 1 : 0;
            case 5 -> one.text.compareTo(other.text) < 0 ? 1 : 0;
            default -> 2;
        };
    }

    private static Parsed parse(String row) {
        Parsed parsed = beginning(row);
        boolean more = parsed.fault == 0 && parsed.place < row.length();
        return more ? Parsed.fault(8, parsed.place) : parsed;
    }

    /** The term with which the row begins, and the place behind it; or the fault. */
    private static Parsed beginning(String row) {
        if (row.startsWith("_")) {
            return blank(row);
        }
        if (row.startsWith("<")) {
            return name(row, 0);
        }
        if (row.startsWith("\"")) {
            return text(row);
        }
        return plain(row);
    }

    private static Parsed plain(String row) {
        if (row.matches("(?s)[-+.0-9].*")) {
            return number(row);
        }
        return row.matches("(?s)[tf].*") ? truth(row) : Parsed.fault(1, 0);
    }

    private static String run(String pattern, String row, int from) {
        Matcher matcher = Pattern.compile(pattern).matcher(row).region(Math.min(from, row.length()), row.length());
        return matcher.lookingAt() ? matcher.group() : "";
    }

    private static Parsed lacking(String row, int at) {
        return Parsed.fault(at == row.length() ? 2 : 3, at);
    }

    private static Parsed made(int kind, long number, String text, String tail, int end) {
        return new Parsed(0, end, new Term(kind, BigDecimal.valueOf(number), text, tail));
    }

    private static Parsed blank(String row) {
        if (!row.startsWith("_:")) {
            return lacking(row, 1);
        }
        String label = run("[A-Za-z0-9_]+", row, 2);
        if (label.length() > 60) {
            return Parsed.fault(4, 62);
        }
        return label.isEmpty() ? lacking(row, 2) : made(1, 0, label, "", 2 + label.length());
    }

    private static Parsed name(String row, int from) {
        if (!row.startsWith("<", from)) {
            return lacking(row, from);
        }
        String name = run("[!#-;=?-\\[\\]_a-z~]+", row, from + 1);
        int end = from + 1 + name.length();
        boolean open = end == row.length();
        if (name.length() > 60 || name.length() == 60 && !open && row.charAt(end) != '>') {
            return Parsed.fault(4, from + 61);
        }
        boolean closed = !name.isEmpty() && row.startsWith(">", end);
        return closed ? made(2, 0, name, "", end + 1) : lacking(row, end);
    }

    private static Parsed truth(String row) {
        String word = row.startsWith("t") ? "true" : "false";
        int alike = 0;
        while (alike < word.length() && alike < row.length() && row.charAt(alike) == word.charAt(alike)) {
            alike++;
        }
        if (alike < word.length() || !run("[A-Za-z0-9_]", row, alike).isEmpty()) {
            return lacking(row, alike);
        }
        return made(8, word.equals("true") ? 1 : 0, "", "", alike);
    }

    private static Parsed number(String row) {
        Matcher parts = Pattern.compile("([-+]?)([0-9]*)(\\.?)([0-9]*)").matcher(row);
        parts.lookingAt();
        int sign = parts.group(1).length();
        String before = parts.group(2);
        String behind = parts.group(4);
        if (before.length() + behind.length() > 18) {
            return Parsed.fault(4, sign + (before.length() > 18 ? 18 : 19));
        }
        boolean dotted = !parts.group(3).isEmpty();
        if (dotted ? behind.isEmpty() : before.isEmpty()) {
            return lacking(row, parts.end());
        }
        if (behind.replaceAll("0+$", "").length() > 9) {
            return Parsed.fault(6, 0);
        }
        BigDecimal value = new BigDecimal(parts.group(1) + "0" + before + "." + behind + "0");
        return new Parsed(0, parts.end(), new Term(dotted ? 4 : 3, value, "", ""));
    }

    private static Parsed text(String row) {
        String items = run("(?:[ !#-\\[\\]-~]|\\\\[\"\\\\nrt])+", row, 1);
        Matcher item = Pattern.compile("\\\\?.").matcher(items);
        StringBuilder bytes = new StringBuilder();
        while (item.find()) {
            if (bytes.length() == 64) {
                return Parsed.fault(4, 1 + item.start());
            }
            String it = item.group();
            bytes.append(it.length() == 1 ? it : it.translateEscapes());
        }
        int end = 1 + items.length();
        if (!row.startsWith("\"", end)) {
            boolean bad = end < row.length();
            boolean backslash = bad && row.charAt(end) == '\\';
            if (bad && bytes.length() == 64) {
                return Parsed.fault(4, end);
            }
            return backslash ? end + 1 < row.length() ? Parsed.fault(5, end) : Parsed.fault(2, end + 1)
                : lacking(row, end);
        }
        if (row.startsWith("@", end + 1)) {
            return tagged(row, bytes.toString(), end + 2);
        }
        if (row.startsWith("^", end + 1)) {
            return row.startsWith("^", end + 2) ? typed(row, bytes.toString(), end + 3) : lacking(row, end + 2);
        }
        return made(5, 0, bytes.toString(), "", end + 1);
    }

    private static Parsed tagged(String row, String text, int from) {
        String tag = run("[A-Za-z]+(?:-[A-Za-z0-9]+)*-?", row, from);
        int end = from + tag.length();
        Matcher tooMany = Pattern.compile("[A-Za-z0-9]{9}").matcher(tag);
        int fault = tooMany.find() ? tooMany.end() - 1 : Integer.MAX_VALUE;
        boolean goesOn = tag.endsWith("-") && end < row.length();
        fault = Math.min(fault, tag.length() > 20 || tag.length() == 20 && goesOn ? 20 : Integer.MAX_VALUE);
        if (fault < Integer.MAX_VALUE) {
            return Parsed.fault(4, from + fault);
        }
        boolean lacks = tag.isEmpty() || tag.endsWith("-");
        return lacks ? lacking(row, end) : made(6, 0, text, tag.toLowerCase(), end);
    }

    private static Parsed typed(String row, String text, int from) {
        Parsed type = name(row, from);
        if (type.fault > 0) {
            return type;
        }
        int kind = switch (type.term.text) {
            case "text" -> 5;
            case "whole" -> 3;
            case "decimal" -> 4;
            case "truth" -> 8;
            default -> 7;
        };
        if (kind == 5 || kind == 7) {
            return made(kind, 0, text, kind == 5 ? "" : type.term.text, type.place);
        }
        Parsed inside = plain(text);
        boolean such = inside.fault == 0 && inside.place == text.length() && inside.term.kind == kind;
        return such ? new Parsed(0, type.place, inside.term) : Parsed.fault(7, 0);
    }

    /** Rows that are terms, or nearly so, often near a limit. */
    private static final class TextMaker {
        private final Random random;

        TextMaker(Random random) {
            this.random = random;
        }

        String make() {
            String text = term();
            int changes = random.nextInt(3) == 0 ? 1 + random.nextInt(2) : 0;
            for (int i = 0; i < changes; i++) {
                text = changed(text);
            }
            return text.length() > 240 ? text.substring(0, 240) : text;
        }

        private String changed(String text) {
            int at = random.nextInt(text.length() + 1);
            int behind = Math.min(text.length(), at + random.nextInt(2));
            return switch (random.nextInt(4)) {
                case 0 -> text.substring(0, at);
                case 1 -> text.substring(0, at) + text.substring(behind);
                case 2 -> text + strange();
                default -> text.substring(0, at) + strange() + text.substring(behind);
            };
        }

        private String strange() {
            String often = "_:<>\"\\^@-+.0aA t{|}`\n";
            boolean any = random.nextInt(4) == 0;
            return String.valueOf((char) (any ? random.nextInt(256) : often.charAt(random.nextInt(often.length()))));
        }

        private String term() {
            return switch (random.nextInt(9)) {
                case 0 -> "_:" + row("ab_9Z", length(60));
                case 1 -> name();
                case 2 -> sign() + row("0019", length(18));
                case 3, 4 -> decimal();
                case 5 -> text();
                case 6 -> text() + "@" + tag();
                case 7 -> random.nextBoolean() ? "\"" + plain() + "\"^^" + wellKnown() : text() + "^^" + name();
                default -> random.nextBoolean() ? "true" : "false";
            };
        }

        private int length(int most) {
            return random.nextInt(5) == 0 ? most - 1 + random.nextInt(3) : 1 + random.nextInt(2);
        }

        private String row(String of, int length) {
            StringBuilder made = new StringBuilder();
            for (int i = 0; i < length; i++) {
                made.append(of.charAt(random.nextInt(of.length())));
            }
            return made.toString();
        }

        private String sign() {
            return List.of("", "", "-", "+").get(random.nextInt(4));
        }

        private String decimal() {
            String before = row("0019", random.nextInt(random.nextInt(3) == 0 ? 12 : 3));
            String behind = row("0019", random.nextInt(random.nextInt(3) == 0 ? 12 : 3));
            return sign() + before + "." + behind + "0".repeat(random.nextInt(3) == 0 ? random.nextInt(9) : 0);
        }

        private String text() {
            int items = random.nextInt(5) == 0 ? 63 + random.nextInt(3) : random.nextInt(3);
            StringBuilder made = new StringBuilder("\"");
            for (int i = 0; i < items; i++) {
                made.append(random.nextInt(5) == 0 ? "\\" + row("\"\\nrt", 1) : row("ab ", 1));
            }
            return made.append('"').toString();
        }

        private String tag() {
            StringBuilder made = new StringBuilder(row("aB", length(8)));
            for (int i = random.nextInt(4); i > 0; i--) {
                made.append('-').append(row("aB1", random.nextInt(3) == 0 ? 6 + random.nextInt(4) : length(8)));
            }
            return made.toString();
        }

        private String name() {
            return "<" + row("ab/#", length(60)) + ">";
        }

        private String wellKnown() {
            return List.of("<text>", "<whole>", "<decimal>", "<truth>", "<Whole>").get(random.nextInt(5));
        }

        private String plain() {
            return switch (random.nextInt(4)) {
                case 0 -> sign() + row("0019", length(18));
                case 1 -> decimal();
                case 2 -> random.nextBoolean() ? "true" : "false";
                default -> row("a1.", random.nextInt(3));
            };
        }
    }
}
