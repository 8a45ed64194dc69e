/** Promises 1, 2 and 5: a new object, type, place. */
public final class TapeTest {
    private static final Check CHECK = new Check("TapeTest");

    public static void main(String[] args) {
        newObject();
        lengths();
        bytesInOrder();
        wrongLengths();
        fullTape();
        places();
        CHECK.end();
    }

    private static void newObject() {
        TermTable x = new TermTable();
        CHECK.due("count of a new object", x.count(), 0);
        CHECK.due("used of a new object", x.used(), 0);
        CHECK.due("place of a new object", x.place(), 0);
        CHECK.due("kind(0) of a new object", x.kind(0), TermTable.BAD);
        CHECK.due("kind(1) of a new object", x.kind(1), TermTable.BAD);
        CHECK.due("written(0) of a new object", x.written(0), TermTable.BAD);
        CHECK.due("type on a new tape", x.type('7', 1), 1);
    }

    private static void lengths() {
        TermTable x = new TermTable();
        int length = 0;
        for (int n = 1; n <= 8; n++) {
            length += n;
            CHECK.due("type(0, " + n + ")", x.type(0, n), length);
        }
        x.read();
        CHECK.due("type after read", x.type('1', 1), 1);
        x.find();
        CHECK.due("type after find", x.type('1', 1), 1);
    }

    private static void bytesInOrder() {
        TermTable x = new TermTable();
        // "12" are the lowest two; what stands above them is left out.
        x.type(0x3939393939393132L, 2);
        x.type('3', 1);
        CHECK.due("read of 123", x.read(), 1);
        CHECK.due("value of 123", x.value(1), 123);
        x.type(0x3132333435363738L, 8);
        CHECK.due("value of 12345678", x.value(x.read()), 12345678);
        x.type(0xFF5F3A61L, 3);
        CHECK.due("_:a below a byte 255", x.kind(x.read()), 1);
        x.type(-1L, 8);
        CHECK.due("read of bytes 255", x.read(), -101);
        x.type('"', 1);
        x.type(200, 1);
        CHECK.due("read of a text with byte 200", x.read(), -103);
        CHECK.due("place of byte 200", x.place(), 1);
    }

    private static void wrongLengths() {
        TermTable x = new TermTable();
        for (int n : new int[] {0, -1, 9, 10, Integer.MIN_VALUE, Integer.MAX_VALUE}) {
            CHECK.due("type(1, " + n + ")", x.type(1, n), TermTable.BAD);
        }
        CHECK.due("type after wrong ones", x.type('1', 1), 1);
    }

    private static void fullTape() {
        TermTable x = new TermTable();
        for (int i = 1; i <= 29; i++) {
            x.type(0x3131313131313131L, 8);
        }
        CHECK.due("type up to 239", x.type(0, 7), 239);
        CHECK.due("type past 240", x.type(0, 2), TermTable.FULL);
        CHECK.due("type of 9 on a full tape", x.type(0, 9), TermTable.BAD);
        CHECK.due("type up to 240", x.type(0, 1), 240);
        CHECK.due("type past 240", x.type(0, 1), TermTable.FULL);
        CHECK.due("read of 240", x.read(), -104);
        CHECK.due("place of the 19th digit", x.place(), 18);
        CHECK.due("type on the tape that was read", x.type('1', 1), 1);
    }

    private static void places() {
        TermTable x = new TermTable();
        CHECK.due("read of nothing", x.read(), -101);
        CHECK.due("place of nothing", x.place(), 0);
        Check.read(x, "<ab>");
        CHECK.due("place after a read without fault", x.place(), 4);
        x.type('1', 1);
        CHECK.due("place after type", x.place(), 4);
        x.find();
        CHECK.due("place after a find that answers NO", x.place(), 1);
        Check.find(x, "<a b>");
        CHECK.due("place after a find with a fault", x.place(), 2);
        x.whole(5);
        x.write(1);
        CHECK.due("place after other calls", x.place(), 2);
    }
}
