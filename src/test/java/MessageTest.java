/** Promises 4 (put), 5 (bits), 6 (end), 7 (begin) and 8 (out), with bytes worked out by hand. */
public final class MessageTest {
    public static void main(String[] args) {
        for (int form = 0; form <= 4; form++) {
            puts(form);
            values(form);
            endsAndBegins(form);
        }
        emptyMessages();
        oneValue();
        oneSign();
        carryIntoPending();
        cutOffRange();
        bytesOfStack();
        bitsOfTable();
        Check.finish("MessageTest");
    }

    private static void puts(int form) {
        String in = "form " + form + ": ";
        RangeCoders x = new RangeCoders(form, 4);
        x.model(3);
        x.count(0, 2, 0);
        Check.due(in + "put(0, 0)", x.put(0, 0), 1);
        Check.due(in + "put(0, 1)", x.put(0, 1), 2);
        Check.due(in + "put(0, 3)", x.put(0, 3), -1);
        Check.due(in + "put(0, -1)", x.put(0, -1), -1);
        Check.due(in + "put(1, 0)", x.put(1, 0), -1);
        Check.due(in + "put(-1, 0)", x.put(-1, 0), -1);
        Check.due(in + "an F of 0", x.put(0, 2), form == 2 ? 3 : -3);
        Check.due(in + "items", x.told(0), form == 2 ? 3 : 2);
        x.end();
        Check.due(in + "ENDED", x.put(0, 0), -3);
        Check.due(in + "-1 ahead of -3", x.put(0, 3), -1);
        x.count(0, 0, 0);
        x.count(0, 1, 0);
        x.begin();
        Check.due(in + "no signs", x.put(0, 0), form == 2 ? 1 : -3);
    }

    private static void values(int form) {
        String in = "form " + form + ": ";
        int widest = form == 4 ? 9 : 12;
        RangeCoders x = new RangeCoders(form, 4);
        int[] wrong = {Integer.MIN_VALUE, -1, 0, widest + 1, 32, 33, Integer.MAX_VALUE};
        for (int width : wrong) Check.due(in + "bits(0, " + width + ")", x.bits(0, width), -2);
        for (int width = 1; width <= widest; width++) {
            Check.due(in + "bits(-1, " + width + ")", x.bits(-1, width), -2);
            Check.due(in + "bits(2^" + width + ", ..)", x.bits(1 << width, width), -2);
            Check.due(in + "bits(0, " + width + ")", x.bits(0, width), 2 * width - 1);
            Check.due(in + "bits(2^" + width + " - 1, ..)", x.bits((1 << width) - 1, width), 2 * width);
        }
        Check.due(in + "bits(MAX_VALUE, 5)", x.bits(Integer.MAX_VALUE, 5), -2);
        x.end();
        Check.due(in + "ENDED", x.bits(0, 1), -3);
        Check.due(in + "-2 ahead of -3", x.bits(2, 1), -2);
        x.take(1);
        x.read();
        for (int width = 1; width <= widest; width++) {
            Check.due(in + "the least of " + width, x.getBits(width), 0);
            Check.due(in + "the greatest of " + width, x.getBits(width), (1 << width) - 1);
        }
    }

    private static void endsAndBegins(int form) {
        String in = "form " + form + ": ";
        RangeCoders x = new RangeCoders(form, 4);
        x.model(2);
        x.put(0, 1);
        x.bits(3, 4);
        Check.due(in + "no OUT ahead of the end", x.told(2), 0);
        Check.due(in + "no byte ahead of the end", x.out(0), -1);
        int bytes = x.end();
        Check.due(in + "end() tells the bytes of OUT", x.told(2), bytes);
        Check.due(in + "it was ENDED", x.end(), -3);
        int[] first = new int[bytes];
        for (int i = 0; i < bytes; i++) first[i] = x.out(i);
        Check.due(in + "out(-1)", x.out(-1), -1);
        Check.due(in + "out(MIN_VALUE)", x.out(Integer.MIN_VALUE), -1);
        Check.due(in + "out(MAX_VALUE)", x.out(Integer.MAX_VALUE), -1);
        Check.due(in + "begin() tells the items", x.begin(), 2);
        Check.bytes(in + "OUT stays", x, first);
        for (int i = 0; i < 40; i++) x.bits(1, 9);
        Check.bytes(in + "OUT stays till the end", x, first);
        Check.due(in + "begin() ahead of the end", x.begin(), 40);
        Check.due(in + "begin() again", x.begin(), 0);
        x.put(0, 1);
        x.bits(3, 4);
        x.end();
        Check.bytes(in + "the same message again", x, first);
    }

    private static void emptyMessages() {
        int[][] due = {{0, 0, 0, 0}, {0, 0, 0, 0}, {0, 0, 0, 0}, {0, 0x80, 0, 0}, {0, 0}};
        for (int form = 0; form <= 4; form++) {
            RangeCoders x = new RangeCoders(form, 4);
            Check.due("form " + form + ": end() of nothing", x.end(), due[form].length);
            Check.bytes("form " + form + ": nothing", x, due[form]);
        }
    }

    private static void oneValue() {
        int[][] due = {{0x9F, 0xFF, 0xFF, 0xFB}, {0x9F, 0xFF, 0xFF, 0xFB}, {0x9F, 0xFF, 0xFF, 0xFE},
            {0x04, 0, 0x0A, 0}, {0, 0x50}};
        for (int form = 0; form <= 4; form++) {
            RangeCoders x = new RangeCoders(form, 4);
            x.bits(5, 3);
            x.end();
            Check.bytes("form " + form + ": bits(5, 3)", x, due[form]);
        }
    }

    /** Form 4: X is 512, F 256: a 0 is WRITTEN, X - F is 0; sign 1's least PLACE is 1, which is given as number 363. */
    private static void oneSign() {
        int[][] due = {{0x7F, 0xFF, 0xFF, 0xFF}, {0x7F, 0xFF, 0xFF, 0xFF}, {0x7F, 0xFF, 0xFC, 0}, {1, 0, 8, 0},
            {0, 0x80}};
        for (int form = 0; form <= 4; form++) {
            RangeCoders x = new RangeCoders(form, 4);
            x.model(2);
            x.put(0, 1);
            x.end();
            Check.bytes("form " + form + ": put(0, 1)", x, due[form]);
        }
    }

    private static void carryIntoPending() {
        RangeCoders x = new RangeCoders(0, 4);
        x.bits(1, 1);
        Check.due("7FFFFFFF", x.state(0), 0x7FFFFFFFL);
        x.bits(0, 12);
        x.bits(0, 12);
        Check.due("two are PENDING", x.state(0), 0xFF000000L);
        Check.due("RANGE", x.state(1), 0x7FFF0000L);
        x.bits(1, 1);
        Check.due("a 33rd bit", x.state(0), 0x13EFF8000L);
        x.end();
        Check.bytes("the carry goes through", x, 0x80, 0, 0, 0x3E, 0xFF, 0x80, 0);
        Check.due("LOW behind ENDED", x.state(0), 0);
        Check.due("RANGE behind ENDED", x.state(1), 0x3FFF8000L);
        x.begin();
        x.bits(1, 1);
        x.bits(0, 12);
        x.bits(0, 12);
        x.end();
        Check.bytes("without a carry", x, 0x7F, 0xFF, 0xFF, 0xFF, 0, 0, 0);
    }

    private static void cutOffRange() {
        RangeCoders x = new RangeCoders(1, 4);
        x.bits(1, 1);
        x.bits(0, 12);
        Check.due("straddles", x.state(0), 0x7FFFFFFFL);
        Check.due("wide enough", x.state(1), 0x7FFFFL);
        x.bits(0, 12);
        Check.due("LOW behind two bytes", x.state(0), 0xFFFF0000L);
        Check.due("RANGE was cut off", x.state(1), 0x10000L);
        x.bits(1, 1);
        x.end();
        Check.bytes("no carries", x, 0x7F, 0xFF, 0xFF, 0xFF, 0x80, 0, 0);
        Check.due("LOW behind ENDED", x.state(0), 0);
        Check.due("RANGE behind ENDED", x.state(1), 0x800000L);
        x.take(1);
        x.read();
        Check.due("1 of 1", x.getBits(1), 1);
        Check.due("0 of 12", x.getBits(12), 0);
        Check.due("0 of 12 again", x.getBits(12), 0);
        Check.due("1 of 1 again", x.getBits(1), 1);
        Check.due("CODE", x.state(2), 0xFF800000L);
        Check.due("LOW", x.state(3), 0xFF800000L);
        Check.due("RANGE", x.state(4), 0x800000L);
    }

    /** f is 1. VALUE 2: X is 2^23, a byte 00, 2^15, 2^27 + 2. VALUE ABCh: bytes 02 and 00, 2^11, 2^23 + ABCh. */
    private static void bytesOfStack() {
        RangeCoders x = new RangeCoders(3, 4);
        x.bits(0xABC, 12);
        x.bits(2, 12);
        x.end();
        Check.bytes("two VALUES of 12 bits", x, 0x00, 0x80, 0x0A, 0xBC, 0x00, 0x02, 0x00);
        x.take(1);
        x.read();
        Check.due("the first one", x.getBits(12), 0xABC);
        Check.due("X behind it", x.state(5), 0x08000002L);
        Check.due("the second one", x.getBits(12), 2);
        Check.due("X behind both", x.state(5), 0x00800000L);
    }

    private static void bitsOfTable() {
        RangeCoders x = new RangeCoders(4, 4);
        x.model(2);
        x.count(0, 0, 0);
        x.put(0, 1);
        x.bits(0x155, 9);
        x.end();
        Check.bytes("a sure sign takes no bits", x, 0x00, 0x55, 0x40);
        x.begin();
        x.bits(1, 1);
        for (int i = 0; i < 6; i++) x.bits(0, 1);
        x.end();
        Check.bytes("16 bits are two bytes", x, 0x00, 0x40);
    }
}
