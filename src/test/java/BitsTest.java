/** Form 2 at its bounds: levels, CHANCES that stop, RANGE and LOW where bytes come, and where a reading is BAD. */
public final class BitsTest {
    private static final long FULL = 0xFFFFFFFFL;

    public static void main(String[] args) {
        levels();
        chancesThatStop();
        chancesOfEachMessage();
        countsCountForNothing();
        rangeOf2To24();
        rangeBelow2To24();
        lowOf2To32();
        lowOfFFFFFFFF();
        lowOfFF000000();
        lowBelowFF000000();
        pendingWithoutCache();
        pendingOfNoMessage();
        surestBits();
        bitOfSign();
        bitOfValue();
        codeNotBelowRangeAsItemBegins();
        codeNotBelowRangeBehindBit();
        signOfNOrMore();
        Check.finish("BitsTest");
    }

    private static RangeCoders coders(int shift, int... signs) {
        RangeCoders x = new RangeCoders(2, shift);
        for (int n : signs) x.model(n);
        return x;
    }

    /** "2^w the least such number that is n at least, and CHANCES 1 .. 2^w - 1" */
    private static void levels() {
        int[][] signsAndNodes = {{2, 1}, {3, 3}, {4, 3}, {5, 7}, {8, 7}, {9, 15}, {16, 15}, {17, 31}, {32, 31}, {33, 63}, {64, 63}};
        for (int[] each : signsAndNodes) {
            String in = each[0] + " signs: ";
            RangeCoders x = coders(4, each[0]);
            for (int node = 1; node <= each[1]; node++) Check.due(in + "NODE " + node, x.chance(0, node), 1024);
            Check.due(in + "no NODE 0", x.chance(0, 0), -1);
            Check.due(in + "no NODE behind the last", x.chance(0, each[1] + 1), -1);
            Check.due(in + "the last sign", x.put(0, each[0] - 1), 1);
            Check.due(in + "none behind it", x.put(0, each[0]), -1);
            int node = each[1] + each[0] >> 1;
            Check.due(in + "its last NODE learnt", x.chance(0, node), each[0] % 2 == 0 ? 960 : 1088);
            x.end();
            Given.readingOfOut(x);
            Check.due(in + "read again", x.get(0), each[0] - 1);
        }
    }

    /**
     * "p grows by (2048 - p) BY 2^SHIFT", "p loses p BY 2^SHIFT": BY cuts off, so p stops ahead of 2048 and of 0; with
     * a SHIFT of 9 it takes more than 512 calls.
     */
    private static void chancesThatStop() {
        for (int shift = 1; shift <= 10; shift++) {
            RangeCoders zeros = coders(shift, 2);
            RangeCoders ones = coders(shift, 2);
            int high = 1024;
            int low = 1024;
            for (int i = 0; i < 500; i++) {
                zeros.put(0, 0);
                ones.put(0, 1);
                high += (2048 - high) / (1 << shift);
                low -= low / (1 << shift);
            }
            String in = "shift " + shift + ": ";
            Check.due(in + "p of 0s", zeros.chance(0, 1), high);
            Check.due(in + "p of 1s", ones.chance(0, 1), low);
            if (shift == 9) continue;
            Check.due(in + "p of 0s stopped", zeros.chance(0, 1), 2049 - (1 << shift));
            Check.due(in + "p of 1s stopped", ones.chance(0, 1), (1 << shift) - 1);
        }
    }

    /** "each 1024 as a message (or reading) begins" */
    private static void chancesOfEachMessage() {
        RangeCoders x = coders(1, 2);
        x.put(0, 1);
        x.end();
        Check.due("behind ENDED", x.chance(0, 1), 512);
        x.begin();
        Check.due("as the next one begins", x.chance(0, 1), 1024);
        Given.reading(x, 0x7FFFFC00, 0);
        Check.due("sign 1", x.get(0), 1);
        Check.due("a reading learns apart", x.chance(0, 1), 1024);
        Check.due("b is 20000000h now", x.get(0), 0);
        Check.due("RANGE is b", x.state(4), 0x100000L * 512);
        x.read();
        Check.due("sign 1 again", x.get(0), 1);
        Check.due("as at first", x.state(4), 0x800003FFL);
    }

    private static void countsCountForNothing() {
        RangeCoders x = coders(4, 4);
        for (int sign = 0; sign < 4; sign++) x.count(0, sign, sign == 1 ? 4095 : 0);
        for (int node = 1; node < 4; node++) Check.due("NODE " + node, x.chance(0, node), 1024);
        for (int sign = 0; sign < 4; sign++) Check.due("a COUNT of 0", x.put(0, sign), sign + 1);
        x.end();
        Given.readingOfOut(x);
        for (int sign = 0; sign < 4; sign++) Check.due("read again", x.get(0), sign);
        for (int sign = 0; sign < 4; sign++) Check.due("a COUNT is kept", x.count(0, sign, 1), -3);
        x.take(0);
        for (int sign = 0; sign < 4; sign++) Check.due("a COUNT is kept", x.count(0, sign, 1), sign == 1 ? 4095 : 0);
    }

    // ---- "then RANGE, LOW as in 0"

    /** Sign 2: 800003FFh, then its half: 2^30. */
    private static RangeCoders with2To24() {
        RangeCoders x = coders(4, 4);
        x.put(0, 2);
        Check.message("sign 2", x, 0x7FFFFC00L, 0x40000000L);
        x.bits(0, 6);
        return x;
    }

    private static void rangeOf2To24() {
        RangeCoders x = with2To24();
        Check.message("RANGE is 2^24: no byte comes", x, 0x7FFFFC00L, 0x1000000);
        x.bits(0, 1);
        Check.message("half of it", x, 0xFFFC0000L, 0x80000000L);
        x.end();
        Check.bytes("half of it", x, 0x7F, 0xFF, 0xFC, 0, 0);
        Given.readingOfOut(x);
        Check.due("sign 2", x.get(0), 2);
        Check.due("0 of 6", x.getBits(6), 0);
        Check.reading("no byte is asked for", x, 0, 0x1000000, 4);
        Check.due("0 of 1", x.getBits(1), 0);
        Check.reading("half of it", x, 0, 0x80000000L, 5);
    }

    private static void rangeBelow2To24() {
        RangeCoders x = coders(4);
        x.bits(0, 7);
        Check.message("RANGE is 1FFFFFFh", x, 0, 0x1FFFFFF);
        x.bits(0, 1);
        Check.message("RANGE is 2^24 - 1: a byte comes", x, 0, 0xFFFFFF00L);
        Given.reading(x, 0x00123456, 0x789ABCDE);
        Check.due("0 of 8", x.getBits(8), 0);
        Check.reading("a byte is asked for", x, 0x12345678, 0xFFFFFF00L, 5);
    }

    /** CACHE is 7Fh, one is PENDING, LOW FC000000h and RANGE 2^31: the fifth bit of a VALUE adds 2^26. */
    private static void lowOf2To32() {
        RangeCoders x = with2To24();
        x.bits(0, 1);
        x.bits(0, 8);
        Check.message("one is PENDING", x, 0xFC000000L, 0x80000000L);
        x.bits(1, 5);
        Check.message("LOW is 2^32", x, 0x100000000L, 0x4000000);
        x.bits(0, 3);
        Check.message("the carry is gone", x, 0, 0x80000000L);
        x.end();
        Check.bytes("CACHE and PENDING have it", x, 0x80, 0, 0, 0, 0, 0, 0);
        Given.readingOfOut(x);
        Check.due("sign 2", x.get(0), 2);
        int[][] values = {{0, 6}, {0, 1}, {0, 8}, {1, 5}, {0, 3}};
        for (int[] each : values) Check.due("a VALUE of " + each[1], x.getBits(each[1]), each[0]);
    }

    /** CACHE is 7Fh, two are PENDING, LOW is FF000000h, RANGE FFFFFF00h. */
    private static RangeCoders withPending() {
        RangeCoders x = coders(4);
        x.bits(1, 1);
        x.bits(0, 7);
        x.bits(0, 8);
        x.bits(0, 8);
        Check.message("two are PENDING", x, 0xFF000000L, 0xFFFFFF00L);
        return x;
    }

    private static void lowOfFFFFFFFF() {
        RangeCoders x = withPending();
        x.bits(1, 8);
        Check.message("LOW was FFFFFFFFh: one more is PENDING", x, 0xFFFFFF00L, 0xFFFFFF00L);
        x.bits(1, 1);
        Check.message("then a carry", x, 0x17FFFFE80L, 0x7FFFFF80L);
        x.end();
        Check.bytes("all PENDING have it", x, 0x80, 0, 0, 0, 0x7F, 0xFF, 0xFE, 0x80);
        Check.message("behind ENDED as they are then", x, 0, 0x7FFFFF80L);
        x.begin();
        Check.message("begun again", x, 0, FULL);
    }

    private static void lowOfFF000000() {
        RangeCoders x = withPending();
        x.bits(0, 8);
        Check.message("LOW was FF000000h: one more is PENDING", x, 0, 0xFFFFFF00L);
        x.end();
        Check.bytes("no carry", x, 0x7F, 0xFF, 0xFF, 0xFF, 0, 0, 0, 0);
    }

    /** Nine bits of 1 by new CHANCES: LOW + RANGE is FFFFFFFFh still, so the first byte is FFh. */
    private static void pendingWithoutCache() {
        RangeCoders x = coders(4, 64, 4, 2);
        x.put(0, 63);
        x.put(1, 3);
        x.put(2, 1);
        Check.message("PENDING without a CACHE", x, 0x7FFC0000L, 0x8003FF00L);
        x.end();
        Check.bytes("PENDING without a CACHE", x, 0xFF, 0x7F, 0xFC, 0, 0);
    }

    private static void lowBelowFF000000() {
        RangeCoders x = coders(4);
        x.bits(255, 8);
        Check.message("LOW was FEFFFFF8h: CACHE is FEh", x, 0xFFFFF800L, 0xFFFFFF00L);
        x.bits(1, 1);
        Check.message("LOW was FEFFFFF8h: then a carry", x, 0x17FFFF780L, 0x7FFFFF80L);
        x.end();
        Check.bytes("CACHE has it", x, 0xFF, 0x7F, 0xFF, 0xF7, 0x80);
    }

    private static void pendingOfNoMessage() {
        RangeCoders x = withPending();
        x.begin();
        Check.message("begun anew", x, 0, FULL);
        x.bits(0, 8);
        x.end();
        Check.bytes("nothing PENDING is left", x, 0, 0, 0, 0, 0);
    }

    /** p is 2047, then 1: a bit that was not looked for makes RANGE 2048 times less, at least. */
    private static void surestBits() {
        RangeCoders x = coders(1, 2, 2);
        for (int i = 0; i < 12; i++) {
            x.put(0, 0);
            x.put(1, 1);
        }
        Check.due("p is 2047", x.chance(0, 1), 2047);
        Check.due("p is 1", x.chance(1, 1), 1);
        long range = x.state(1);
        x.put(0, 1);
        Check.due("RANGE loses b", x.state(1), wide(range - range / 2048 * 2047));
        range = x.state(1);
        x.put(1, 0);
        Check.due("RANGE is b", x.state(1), wide(range / 2048));
        x.end();
        Given.readingOfOut(x);
        for (int i = 0; i < 12; i++) {
            Check.due("0 is read", x.get(0), 0);
            Check.due("1 is read", x.get(1), 1);
        }
        Check.due("the other sign", x.get(0), 1);
        Check.due("the other sign, too", x.get(1), 0);
    }

    private static long wide(long range) {
        long wide = range;
        while (wide < 1 << 24) wide *= 256;
        return wide;
    }

    // ---- reading: "a bit is 0 if CODE is below b (of a VALUE: RANGE), else CODE loses that"

    private static void bitOfSign() {
        RangeCoders x = coders(4, 2);
        Given.reading(x, 0x7FFFFBFF);
        Check.due("CODE is below b", x.get(0), 0);
        Check.reading("RANGE is b", x, 0x7FFFFBFFL, 0x7FFFFC00L, 4);
        Given.reading(x, 0x7FFFFC00);
        Check.due("CODE is b", x.get(0), 1);
        Check.reading("RANGE loses b", x, 0, 0x800003FFL, 4);
    }

    private static void bitOfValue() {
        RangeCoders x = coders(4);
        Given.reading(x, 0x7FFFFFFE);
        Check.due("CODE is below RANGE", x.getBits(1), 0);
        Check.reading("0", x, 0x7FFFFFFEL, 0x7FFFFFFFL, 4);
        Given.reading(x, 0x7FFFFFFF);
        Check.due("CODE is RANGE", x.getBits(1), 1);
        Check.reading("1", x, 0, 0x7FFFFFFFL, 4);
        Given.reading(x, 0xFFFFFFFD);
        Check.due("the greatest CODE that is good", x.getBits(1), 1);
        Check.reading("1 again", x, 0x7FFFFFFEL, 0x7FFFFFFFL, 4);
    }

    /** "BAD if CODE is not below RANGE as an item begins" */
    private static void codeNotBelowRangeAsItemBegins() {
        for (int kind = 0; kind < 2; kind++) {
            RangeCoders x = coders(4, 2, 64);
            Given.reading(x, -1, 0);
            Check.due("not BAD ahead of an item", x.told(6), 0);
            Check.due("CODE is RANGE", kind == 0 ? x.get(1) : x.getBits(12), -5);
            bad("CODE is RANGE", x, FULL, FULL, 4);
            Given.reading(x, 0xFFFFFFFE, 0);
            Check.due("CODE is RANGE - 1, a sign", x.get(0), 1);
            Check.reading("CODE is RANGE - 1", x, 0x800003FEL, 0x800003FFL, 4);
            Given.reading(x, 0xFFFFFFFE, 0);
            Check.due("CODE is RANGE - 1, six bits", x.get(1), 63);
            Check.reading("CODE is RANGE - 1, six bits", x, 0x40003FEL, 0x40003FFL, 4);
        }
    }

    /** "or (what comes of a RANGE that was cut off) behind a bit of a VALUE, ahead of the bytes that would come" */
    private static void codeNotBelowRangeBehindBit() {
        RangeCoders x = coders(4, 2);
        Given.reading(x, 0xFFFFFFFE, 0);
        Check.due("behind the only bit", x.getBits(1), -5);
        bad("behind the only bit", x, 0xFFFFFFFEL, FULL, 4);
        Given.reading(x, 0xFFFFFFFE, 0);
        Check.due("behind the first of twelve", x.getBits(12), -5);
        bad("behind the first of twelve", x, 0xFFFFFFFEL, FULL, 4);
        Given.reading(x, 0x7FFFFFFE, 0);
        Check.due("a good bit", x.getBits(1), 0);
        Check.due("the one behind it", x.getBits(1), -5);
        bad("the one behind it", x, 0x7FFFFFFEL, 0x7FFFFFFFL, 4);
        Given.reading(x, 0x01FFFFFE, 0);
        Check.due("seven good bits", x.getBits(7), 0);
        Check.due("the eighth, where a byte would come", x.getBits(1), -5);
        bad("the eighth", x, 0x01FFFFFEL, 0x01FFFFFFL, 4);
        Given.reading(x, 0x00FFFFFE, 0xFF000000);
        Check.due("eight good bits, and a byte", x.getBits(8), 0);
        Check.reading("a byte came", x, 0xFFFFFEFFL, 0xFFFFFF00L, 5);
        Check.due("an even RANGE cuts nothing off", x.getBits(8), 255);
        Check.due("asked for", x.told(5), 6);
        Check.due("items read", x.told(4), 2);
    }

    /** "A sign that is n or more: BAD"; sign 5 of 8 begins at 9FFFFC00h, sign 6 at BFFFFC00h. */
    private static void signOfNOrMore() {
        for (int n = 5; n <= 8; n++) {
            RangeCoders x = coders(4, n);
            int[][] codeAndSign = {{0x9FFFFBFF, 4}, {0x9FFFFC00, 5}, {0xBFFFFBFF, 5}, {0xBFFFFC00, 6}, {0xFFFFFFFE, 7}};
            for (int[] each : codeAndSign) {
                String in = n + " signs, CODE " + Integer.toHexString(each[0]) + ": ";
                Given.reading(x, each[0], 0);
                Check.due(in + "sign", x.get(0), each[1] < n ? each[1] : -5);
                if (each[1] >= n) bad(in, x, each[0] & FULL, FULL, 4);
                if (each[1] < n) Check.due(in + "items read", x.told(4), 1);
            }
        }
        for (int n : new int[] {3, 9, 17, 33, 63}) {
            RangeCoders x = coders(4, n);
            Given.reading(x, 0xFFFFFFFE, 0);
            Check.due(n + " signs: all bits 1", x.get(0), -5);
            bad(n + " signs: all bits 1", x, 0xFFFFFFFEL, FULL, 4);
        }
        RangeCoders late = coders(4, 64, 63);
        Given.reading(late, 0xFFFFFFFE, -1);
        Check.due("sign 63 of 64", late.get(0), 63);
        Check.due("sign 63 of 63, for whose bits a byte was taken", late.get(1), -5);
        bad("sign 63 of 63", late, 0x40003FEL, 0x40003FFL, 4);
    }

    /** -5, "then nothing changes": but that the reading is BAD from then on. */
    private static void bad(String what, RangeCoders x, long code, long range, int asked) {
        int read = x.told(4);
        Check.reading(what + ": nothing changes", x, code, range, asked);
        Check.due(what + ": BAD", x.told(6), 1);
        Check.due(what + ": a reading still", x.told(7), 1);
        Check.due(what + ": a VALUE from then on", x.getBits(1), -5);
        Check.due(what + ": items read", x.told(4), read);
        Check.reading(what + ": nothing changes again", x, code, range, asked);
        x.read();
        Check.due(what + ": a new reading is not BAD", x.told(6), 0);
    }
}
