import java.nio.charset.StandardCharsets;

/** Counts the answers that are not as due; each test has one of its own. */
final class Check {
    private final String test;
    private String sentence = "";
    private int looked = 0;
    private int wrong = 0;

    Check(String test) {
        this.test = test;
    }

    /** What is looked at from here on stands for this sentence of the document. */
    void sentence(String words) {
        sentence = " [" + words + "]";
    }

    void due(String call, long got, long want) {
        due(call, Long.toString(got), Long.toString(want));
    }

    void due(String call, String got, String want) {
        looked++;
        if (!got.equals(want)) {
            wrong++;
            System.out.println(test + ": " + call + " answered " + got + ", due is " + want + sentence);
        }
    }

    /** The text is read in a table of its own with this fault at this place, and leaves nothing there. */
    void fault(String text, int fault, int place) {
        TermTable x = new TermTable();
        due("read " + text, read(x, text), -100 - fault);
        due("place of " + text, x.place(), place);
        due("count after " + text, x.count(), 0);
        due("used after " + text, x.used(), 0);
        due("find " + text, find(x, text), -100 - fault);
        due("place of find " + text, x.place(), place);
    }

    /** The text is read in a table of its own as this kind, and written so. */
    void reads(String text, int kind, String written) {
        TermTable x = new TermTable();
        due("find " + text + " before", find(x, text), TermTable.NO);
        due("read " + text, read(x, text), 1);
        due("place of " + text, x.place(), text.length());
        due("kind of " + text, x.kind(1), kind);
        due("write " + text, written(x, 1), written);
        due("read " + text + " again", read(x, text), 1);
        due("find " + text, find(x, text), 1);
        due("count after " + text, x.count(), 1);
    }

    void end() {
        System.out.println(test + ": " + looked + " answers looked at, " + wrong + " not as due");
        if (wrong != 0) {
            System.exit(1);
        }
    }

    /** Types the text, whose characters are bytes, eight at a time; the last answer of type. */
    static int type(TermTable x, String text) {
        byte[] bytes = text.getBytes(StandardCharsets.ISO_8859_1);
        int answer = 0;
        for (int from = 0; from < bytes.length; from += 8) {
            int n = Math.min(8, bytes.length - from);
            long packed = 0;
            for (int i = 0; i < n; i++) {
                packed = packed << 8 | bytes[from + i] & 255;
            }
            answer = x.type(packed, n);
        }
        return answer;
    }

    static int read(TermTable x, String text) {
        type(x, text);
        return x.read();
    }

    static int find(TermTable x, String text) {
        type(x, text);
        return x.find();
    }

    static String latest(TermTable x, int length) {
        StringBuilder text = new StringBuilder();
        for (int i = 0; i < length; i++) {
            text.append((char) x.written(i));
        }
        return text.toString();
    }

    static String written(TermTable x, int term) {
        return latest(x, x.write(term));
    }
}
