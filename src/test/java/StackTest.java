/** Form 3 at its bounds: X where bytes are WRITTEN and where they come, and where X is BAD. */
public final class StackTest {
    private static final long LEAST = 1 << 23;

    public static void main(String[] args) {
        xNotBelow();
        xNotBelowTwice();
        sureSign();
        firstFourBytes();
        xBelow2To23Behind();
        shareOfTheSign();
        shareOfTheValue();
        greatestX();
        Check.finish("StackTest");
    }

    private static RangeCoders counts(int... counts) {
        return Given.counts(3, counts);
    }

    // ---- "as long as X is not below 2^19 f: its lowest byte is WRITTEN"

    private static void xNotBelow() {
        RangeCoders x = new RangeCoders(3, 4);
        x.bits(5, 8);
        x.end();
        Check.bytes("f is 16, X 2^19 f: a byte", x, 0, 0x80, 0, 0x50, 0);
        x.begin();
        x.bits(5, 7);
        x.end();
        Check.bytes("f is 32, X below: none", x, 0x40, 0, 0, 0xA0);
        RangeCoders y = counts(17, 4079);
        y.put(0, 0);
        y.end();
        Check.bytes("f is 17, X just below: none", y, 0x78, 0x78, 0x70, 0x09);
    }

    /** Behind the last VALUE X is 2^27; a byte makes it 2^19, which is not below 2^19 f, so one more. */
    private static void xNotBelowTwice() {
        RangeCoders x = new RangeCoders(3, 4);
        x.bits(3, 12);
        x.bits(0, 12);
        Check.due("X's four bytes and three", x.end(), 7);
        Check.bytes("three bytes", x, 0, 0x80, 0, 3, 0, 0, 0);
        Given.readingOfOut(x);
        Check.due("3", x.getBits(12), 3);
        Check.due("two bytes came", x.told(5), 6);
        Check.due("X", x.state(5), 1 << 27);
        Check.due("0", x.getBits(12), 0);
        Check.due("one byte came", x.told(5), 7);
        Check.due("X is 2^23 again", x.state(5), LEAST);
    }

    private static void sureSign() {
        RangeCoders x = counts(0, 7);
        for (int i = 0; i < 50; i++) x.put(0, 1);
        x.end();
        Check.bytes("f is 4096: nothing is WRITTEN, X stays", x, 0, 0x80, 0, 0);
        Given.readingOfOut(x);
        for (int i = 0; i < 60; i++) Check.due("it is read for ever", x.get(0), 1);
        Check.due("nothing more is asked for", x.told(5), 4);
    }

    // ---- "READ: X is the first four bytes, the highest first (below 2^23: BAD)"

    private static void firstFourBytes() {
        int[][] xAndBad = {{0, 1}, {0x007FFFFF, 1}, {0x00800000, 0}, {0x7FFFFFFF, 0}, {0x80000000, 0}, {-1, 0}};
        for (int[] each : xAndBad) {
            String in = "X is " + Integer.toHexString(each[0]) + ": ";
            RangeCoders x = new RangeCoders(3, 4);
            x.octets(each[0]);
            Check.due(in + "read()", x.read(), 4);
            Check.due(in + "X is without sign", x.state(5), each[0] & 0xFFFFFFFFL);
            Check.due(in + "BAD", x.told(6), each[1]);
            Check.due(in + "a reading", x.told(7), 1);
            Check.due(in + "asked for", x.told(5), 4);
            Check.due(in + "a VALUE", x.getBits(1), each[1] == 1 ? -5 : each[0] >>> 11 & 1);
            Check.due(in + "items read", x.told(4), each[1] == 1 ? 0 : 1);
        }
        RangeCoders empty = new RangeCoders(3, 4);
        Check.due("IN is empty", empty.read(), 0);
        Check.due("four 0s are BAD", empty.told(6), 1);
        empty.octets(0x00800000);
        Check.due("they were asked for", empty.told(5), 4);
        Check.due("BAD still", empty.getBits(1), -5);
        empty.read();
        Check.due("a new reading", empty.getBits(1), 0);
    }

    // ---- "as long as it is below 2^23, it is times 256, and the next byte"

    private static void xBelow2To23Behind() {
        RangeCoders x = counts(1, 1);
        Given.reading(x, 0x01000000, 0xAB000000);
        Check.due("sign 0", x.get(0), 0);
        Check.due("X is 2^23", x.state(5), LEAST);
        Check.due("no byte comes", x.told(5), 4);
        Given.reading(x, 0x00FFF7FF, 0xAB000000);
        Check.due("sign 0 again", x.get(0), 0);
        Check.due("X was 2^23 - 1", x.state(5), 0x7FFFFFABL);
        Check.due("a byte comes", x.told(5), 5);
        Given.reading(x, 0x00800ABC, 0x12345678);
        Check.due("12 bits", x.getBits(12), 0xABC);
        Check.due("X was 2^11", x.state(5), 0x8001234L);
        Check.due("two bytes come", x.told(5), 6);
        Given.reading(x, 0x00800000);
        Check.due("12 bits of 0", x.getBits(12), 0);
        Check.due("past IN are 0s", x.state(5), 1 << 27);
        Check.due("they are asked for", x.told(5), 6);
    }

    // ---- "the sign with c not above v, v below c + f (VALUE: v BY f)"

    private static void shareOfTheSign() {
        RangeCoders x = counts(1, 0, 3);
        int[][] vAndSign = {{0, 0}, {0x3FF, 0}, {0x400, 2}, {0xFFF, 2}};
        for (int[] each : vAndSign) {
            Given.reading(x, 0x40000000 + each[0]);
            Check.due("v is " + each[0], x.get(0), each[1]);
            long f = each[1] == 0 ? 1024 : 3072;
            Check.due("X behind v of " + each[0], x.state(5), f * 0x40000 + each[0] - (each[1] == 0 ? 0 : 1024));
        }
    }

    private static void shareOfTheValue() {
        RangeCoders x = new RangeCoders(3, 4);
        int[][] widthVValue = {{3, 0x1FF, 0}, {3, 0x200, 1}, {3, 0xFFF, 7}, {1, 0x7FF, 0}, {1, 0x800, 1}, {12, 0xFFF, 0xFFF}};
        for (int[] each : widthVValue) {
            Given.reading(x, 0x40000000 + each[1]);
            Check.due(each[0] + " bits of v " + each[1], x.getBits(each[0]), each[2]);
        }
    }

    /** X of 32 bits, f of 4096: it stays as great as it is. */
    private static void greatestX() {
        RangeCoders x = counts(0, 1);
        Given.reading(x, -1);
        Check.due("the sure sign", x.get(0), 1);
        Check.due("X", x.state(5), 0xFFFFFFFFL);
        Check.due("one bit", x.getBits(1), 1);
        Check.due("X behind it", x.state(5), 2048L * 0xFFFFF + 2047);
    }
}
