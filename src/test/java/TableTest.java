import java.util.Arrays;

/** Form 4 at its bounds: the PLACES, X where bits are WRITTEN and where they come, bytes filled up. */
public final class TableTest {
    public static void main(String[] args) {
        xOfTwoF();
        rarestSign();
        sureSign();
        nineBitsAtMost();
        filledWithZeros();
        allPlaces();
        allPlacesOfTwo();
        xBelow512();
        pastIn();
        bytesBegun();
        Check.finish("TableTest");
    }

    private static RangeCoders counts(int... counts) {
        return Given.counts(4, counts);
    }

    // ---- "as long as X is 2 F at least, its lowest bit is WRITTEN"

    /** X is 512. F 256: a bit, X - F is 0. F 257: none, X - F is 255: PLACE 508 of 257. F 255: a bit, X - F is 1. */
    private static void xOfTwoF() {
        RangeCoders even = counts(256, 256);
        even.put(0, 0);
        even.end();
        Check.bytes("X is 2 F: a bit, PLACE 0", even, 0, 0);
        even.begin();
        even.put(0, 0);
        for (int i = 0; i < 7; i++) even.bits(1, 1);
        even.end();
        Check.bytes("17 bits with that one", even, 0x00, 0x3F, 0x80);
        RangeCoders odd = counts(257, 255);
        odd.put(0, 0);
        odd.end();
        Check.bytes("X is 2 F - 2: no bit, PLACE 508", odd, 0xFE, 0x00);
        odd.begin();
        odd.put(0, 0);
        for (int i = 0; i < 7; i++) odd.bits(1, 1);
        odd.end();
        Check.bytes("16 bits without one", odd, 0xFE, 0x7F);
        odd.begin();
        odd.put(0, 1);
        odd.end();
        Check.bytes("X is 2 F + 2: a bit, PLACE 4", odd, 0x02, 0x00);
        Given.readingOfOut(odd);
        Check.due("sign 1", odd.get(0), 1);
        Check.due("X is 512 again", odd.state(5), 512);
    }

    /** F is 1: nine bits make X 1; sign 1 has the PLACE 323 alone. */
    private static void rarestSign() {
        int[] many = new int[64];
        Arrays.fill(many, 1);
        many[63] = 4095;
        RangeCoders x = counts(many);
        x.put(0, 0);
        x.end();
        Check.bytes("sign 0, PLACE 0", x, 0, 0, 0);
        x.begin();
        x.put(0, 1);
        x.put(0, 1);
        x.end();
        Check.bytes("sign 1 twice, PLACE 323", x, 0xA1, 0xD0, 0xC0, 0);
        Given.readingOfOut(x);
        Check.due("sign 1", x.get(0), 1);
        Check.due("nine bits came", x.told(5), 3);
        Check.due("X is 512 + 323 again", x.state(5), 512 + 323);
        Check.due("sign 1 again", x.get(0), 1);
        Check.due("nine more", x.told(5), 4);
        Check.due("X", x.state(5), 512);
    }

    private static void sureSign() {
        RangeCoders x = counts(0, 7);
        for (int i = 0; i < 50; i++) x.put(0, 1);
        x.end();
        Check.bytes("F is 512: nothing is WRITTEN, X stays", x, 0, 0);
        Given.reading(x, 0xFF800000);
        for (int i = 0; i < 50; i++) Check.due("it is read for ever", x.get(0), 1);
        Check.due("X stays 1023", x.state(5), 1023);
        Check.due("nothing more is asked for", x.told(5), 2);
    }

    // ---- "(4: b is 1 .. 9 bits)", "filled with 0s"

    private static void nineBitsAtMost() {
        RangeCoders x = new RangeCoders(4, 4);
        Check.due("nine bits", x.bits(511, 9), 1);
        Check.due("ten bits", x.bits(0, 10), -2);
        Check.due("512 of nine", x.bits(512, 9), -2);
        Check.due("no bits", x.bits(0, 0), -2);
        Check.due("one bit", x.bits(1, 1), 2);
        x.end();
        Check.bytes("9, 9 and 1 bits", x, 0, 0x7F, 0xE0);
        Given.readingOfOut(x);
        Check.due("getBits(10)", x.getBits(10), -2);
        Check.due("nothing was taken", x.getBits(9), 511);
        Check.due("getBits(0)", x.getBits(0), -2);
        Check.due("nothing was taken again", x.getBits(1), 1);
        Check.due("X is not asked", x.state(5), 512);
    }

    private static void filledWithZeros() {
        int[] lastByte = {0x00, 0x40, 0x60, 0x70, 0x78, 0x7C, 0x7E, 0x7F, 0x80};
        for (int ones = 0; ones < lastByte.length; ones++) {
            RangeCoders x = new RangeCoders(4, 4);
            for (int i = 0; i < ones; i++) x.bits(1, 1);
            Check.due((9 + ones) + " bits", x.end(), ones < 8 ? 2 : 3);
            Check.due((9 + ones) + " bits: the last byte", x.out(ones < 8 ? 1 : 2), lastByte[ones]);
        }
    }

    // ---- "PLACES .. from 0 on, 323 more each time, modulo 512": PLACE p is given as number 363 p

    private static void allPlaces() {
        int first = 0;
        int third = 0;
        for (int place = 0; place < 512; place++) {
            boolean isFirst = place * 363 % 512 < 128;
            int x = isFirst ? 128 + first++ : 384 + third++;
            RangeCoders coders = counts(1, 0, 3);
            Given.reading(coders, place << 23);
            place("PLACE " + place, coders, isFirst ? 0 : 2, x);
        }
        Check.due("PLACES of sign 0", first, 128);
        Check.due("PLACES of sign 2", third, 384);
    }

    private static void allPlacesOfTwo() {
        int[] next = {257, 255};
        for (int place = 0; place < 512; place++) {
            int sign = place * 363 % 512 < 257 ? 0 : 1;
            RangeCoders coders = counts(257, 255);
            Given.reading(coders, place << 23);
            place("PLACE " + place + " of two", coders, sign, next[sign]++);
        }
    }

    private static void place(String name, RangeCoders coders, int sign, int x) {
        Check.due(name + ": sign", coders.get(0), sign);
        int wide = x;
        while (wide < 512) wide *= 2;
        Check.due(name + ": X behind it", coders.state(5), wide);
    }

    // ---- "as long as X is below 512, it is times 2, and the next bit"

    /** Number 127 of sign 2 makes X 511, number 128 makes it 512: the next bits of IN are 1s. */
    private static void xBelow512() {
        int number = 0;
        for (int place = 0; place < 512; place++) {
            if (place * 363 % 512 < 128) continue;
            if (number == 127 || number == 128) {
                RangeCoders x = counts(1, 0, 3);
                Given.reading(x, place << 23 | 0x7F0000);
                Check.due("number " + number, x.get(0), 2);
                Check.due("X behind number " + number, x.state(5), number == 127 ? 1023 : 512);
                Check.due("bits that were left", x.getBits(7), number == 127 ? 0x7E : 0x7F);
            }
            number++;
        }
    }

    private static void pastIn() {
        RangeCoders x = counts(1, 1);
        Check.due("IN is empty", x.read(), 0);
        Check.due("X is 512", x.state(5), 512);
        Check.due("not BAD", x.told(6), 0);
        Check.due("two bytes were begun", x.told(5), 2);
        for (int i = 0; i < 20; i++) Check.due("0s are PLACE 0", x.get(0), 0);
        Check.due("29 bits", x.told(5), 4);
        Check.due("a VALUE of 0s", x.getBits(9), 0);
        Check.due("38 bits", x.told(5), 5);
        x.octets(-1);
        x.octets(-1);
        Check.due("what was asked for is past", x.getBits(9), 511);
        Check.due("47 bits", x.told(5), 6);
        x.bits(511, 9);
        x.end();
        Check.due("one byte of two", x.take(3), 1);
        x.read();
        Check.due("eight bits and a 0", x.state(5), 512);
    }

    /** "how many bytes of IN were asked for (bits in 4: bytes begun)" */
    private static void bytesBegun() {
        RangeCoders x = new RangeCoders(4, 4);
        x.octets(0);
        x.read();
        int bits = 9;
        for (int i = 0; i < 40; i++) {
            Check.due(bits + " bits", x.told(5), (bits + 7) / 8);
            x.getBits(1);
            bits++;
        }
        x.read();
        Check.due("a new reading", x.told(5), 2);
    }
}
