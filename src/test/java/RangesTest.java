import java.util.Arrays;

/**
 * Forms 0 and 1 (and what form 2 has of 0 in BitsTest) at their bounds: F and its sums, RANGE and LOW where bytes
 * come, v where a reading is BAD. Each test names the words of the document that it holds.
 */
public final class RangesTest {
    private static final long FULL = 0xFFFFFFFFL;

    public static void main(String[] args) {
        for (int form = 0; form <= 1; form++) {
            countsAheadOfFirstItem(form);
            sumAbove8192AsMessageBegins(form);
            sumAbove8192AsReadingBegins(form);
            growsBy32InMessage(form);
            growsBy32InReading(form);
            zeroStaysZero(form);
            onlyOneSign(form);
            rangeOf2To24(form);
            rangeBelow2To24(form);
            twoBytesAtOnce(form);
            shareOfTheSign(form);
            shareOfTheValue(form);
            badFromThenOn(form);
        }
        lowOfFF000000();
        lowOfFFFFFFFF();
        lowOf2To32();
        lowBelowFF000000();
        pendingWithoutCache();
        pendingOfNoMessage();
        rangeOf2To16();
        rangeBelow2To16();
        wrappedSum();
        codeBelowLow();
        Check.finish("RangesTest");
    }

    /** "(a COUNT that is changed ahead of its first item counts, too)" */
    private static void countsAheadOfFirstItem(int form) {
        String in = "form " + form + ": a COUNT ";
        RangeCoders x = Given.counts(form, 1, 1);
        x.begin();
        x.count(0, 0, 3);
        Check.chances(in + "ahead of the first item", x, 3, 1);
        x.put(0, 0);
        Check.message(in + "ahead of the first item", x, 0, FULL / 4 * 3);
        Check.due(in + "behind it", x.count(0, 0, 1), -3);
        x.end();
        Check.due(in + "behind ENDED", x.count(0, 0, 1), 3);
        Check.chances(in + "behind ENDED: as it ended", x, 35, 1);
        x.begin();
        Check.chances(in + "behind ENDED: as the next one begins", x, 1, 1);
        x.put(0, 0);
        Check.message(in + "behind ENDED: as the next one begins", x, 0, FULL / 2);
        Given.reading(x, 0);
        x.get(0);
        Check.reading(in + "as a reading begins", x, 0, FULL / 2, 4);
    }

    // ---- "as long as their sum is above 8192, each F becomes (F + 1) BY 2"

    private static void sumAbove8192AsMessageBegins(int form) {
        String in = "form " + form + ": ";
        RangeCoders even = Given.counts(form, 4095, 4095, 2);
        Check.chances(in + "8192 is not above", even, 4095, 4095, 2);
        Check.chances(in + "8193 is", Given.counts(form, 4095, 4095, 3), 2048, 2048, 2);
        Check.chances(in + "8194, (F + 1) BY 2", Given.counts(form, 4095, 4095, 4), 2048, 2048, 2);
        Check.chances(in + "1 stays 1, 0 stays 0", Given.counts(form, 4095, 0, 4095, 1, 1, 1), 2048, 0, 2048, 1, 1, 1);
        Check.chances(in + "12285 once", Given.counts(form, 4095, 4095, 4095), 2048, 2048, 2048);
        Check.chances(in + "16380 once: 8192", Given.counts(form, 4095, 4095, 4095, 4095), 2048, 2048, 2048, 2048);
        Check.chances(in + "16381 twice", Given.counts(form, 4095, 4095, 4095, 4095, 1), 1024, 1024, 1024, 1024, 1);
        int[] most = new int[64];
        Arrays.fill(most, 4095);
        Check.due(in + "262080 five times: 8192", Given.counts(form, most).chance(0, 63), 128);
        even.put(0, 0);
        even.begin();
        Check.chances(in + "8192 again as the next one begins", even, 4095, 4095, 2);
    }

    private static void sumAbove8192AsReadingBegins(int form) {
        String in = "form " + form + ": a reading, ";
        RangeCoders even = Given.counts(form, 4095, 4095, 2);
        Given.reading(even, 0);
        Check.due(in + "first sign", even.get(0), 0);
        Check.due(in + "8192 is not above: r f", even.state(4), FULL / 8192 * 4095);
        RangeCoders odd = Given.counts(form, 4095, 4095, 3);
        Given.reading(odd, 0);
        Check.due(in + "first sign", odd.get(0), 0);
        Check.due(in + "8193 is: r f", odd.state(4), FULL / 4098 * 2048);
        Given.reading(odd, (int) (FULL / 4098 * 2048));
        Check.due(in + "c of sign 1 is 2048", odd.get(0), 1);
        Given.reading(odd, (int) (FULL / 4098 * 2048 - 1));
        Check.due(in + "what is below it is sign 0", odd.get(0), 0);
    }

    // ---- "Behind a sign its F grows by 32; if t is above 8192 then, each F becomes (F + 1) BY 2"

    private static void growsBy32InMessage(int form) {
        String in = "form " + form + ": ";
        RangeCoders even = Given.counts(form, 4095, 4064, 1);
        even.put(0, 1);
        Check.chances(in + "8192 is not above", even, 4095, 4096, 1);
        Check.due(in + "its f was 4064 of 8160", even.state(1), FULL / 8160 * 4064);
        RangeCoders odd = Given.counts(form, 4095, 4064, 2);
        odd.put(0, 0);
        Check.chances(in + "8193 is", odd, 2064, 2032, 1);
        RangeCoders full = Given.counts(form, 4095, 4095, 2);
        full.put(0, 2);
        Check.chances(in + "8224 is", full, 2048, 2048, 17);
        Check.due(in + "its f was 2 of 8192", full.state(1), FULL / 8192 * 2 << 8);
    }

    private static void growsBy32InReading(int form) {
        String in = "form " + form + ": a reading, ";
        RangeCoders even = Given.counts(form, 4095, 4064, 1);
        Given.reading(even, 0);
        even.get(0);
        even.get(0);
        Check.due(in + "8192 is not above: r f", even.state(4), FULL / 8160 * 4095 / 8192 * 4127);
        RangeCoders odd = Given.counts(form, 4095, 4064, 2);
        Given.reading(odd, 0);
        odd.get(0);
        odd.get(0);
        Check.due(in + "8193 is: r f", odd.state(4), FULL / 8161 * 4095 / 4097 * 2064);
        Check.chances(in + "the message's F stay", odd, 4095, 4064, 2);
        odd.read();
        odd.get(0);
        Check.due(in + "a new one begins with the COUNTS", odd.state(4), FULL / 8161 * 4095);
    }

    private static void zeroStaysZero(int form) {
        RangeCoders x = Given.counts(form, 4095, 0, 4090);
        x.put(0, 0);
        Check.chances("form " + form + ": (0 + 1) BY 2 is 0", x, 2064, 0, 2045);
        Check.due("form " + form + ": F is 0 still", x.put(0, 1), -3);
        Check.due("form " + form + ": no item came of it", x.put(0, 2), 2);
    }

    /** f is t: the sign takes nothing of RANGE. */
    private static void onlyOneSign(int form) {
        String in = "form " + form + ": one sign alone, ";
        RangeCoders x = Given.counts(form, 0, 1, 0);
        x.put(0, 1);
        x.put(0, 1);
        Check.message(in + "LOW and RANGE stay", x, 0, FULL - FULL % 33);
        Check.chances(in + "it grows all the same", x, 0, 65, 0);
        Given.reading(x, 0x7FFFFFFF);
        Check.due(in + "is read", x.get(0), 1);
        Check.reading(in + "the reading stays", x, 0x7FFFFFFFL, FULL, 4);
        Given.reading(x, -1);
        Check.due(in + "v is 1, and t too", x.get(0), -5);
    }

    // ---- "as long as RANGE is below 2^24"; form 1: "LOW and LOW + RANGE have the same byte 3"

    /** RANGE is 55555555h, 2AAAAAAh, then 8192 times 2048. */
    private static RangeCoders with2To24(int form) {
        RangeCoders x = Given.counts(form, 1, 1, 1);
        Given.model(x, 2048, 3413);
        Given.model(x, 1, 4095, 4095, 1);
        return x;
    }

    private static void rangeOf2To24(int form) {
        String in = "form " + form + ": RANGE is 2^24, ";
        RangeCoders x = with2To24(form);
        x.put(0, 0);
        x.bits(0, 5);
        Check.message(in + "ahead", x, 0, 0x2AAAAAA);
        x.put(1, 0);
        Check.message(in + "no byte comes", x, 0, 0x1000000);
        x.bits(0, 1);
        Check.message(in + "half of it", x, 0, 0x80000000L);
        Check.due(in + "one byte and the last four", x.end(), 5);
        Given.readingOfOut(x);
        Check.due(in + "sign", x.get(0), 0);
        Check.due(in + "VALUE", x.getBits(5), 0);
        Check.due(in + "sign", x.get(1), 0);
        Check.reading(in + "no byte is asked for", x, 0, 0x1000000, 4);
        Check.due(in + "VALUE", x.getBits(1), 0);
        Check.reading(in + "half of it", x, 0, 0x80000000L, 5);
    }

    private static void rangeBelow2To24(int form) {
        String in = "form " + form + ": RANGE is 2^24 - 1, ";
        RangeCoders x = new RangeCoders(form, 4);
        x.bits(0, 8);
        Check.message(in + "a byte comes", x, 0, 0xFFFFFF00L);
        Check.due(in + "one byte and the last four", x.end(), 5);
        Given.reading(x, 0x00123456, 0x789ABCDE);
        Check.due(in + "VALUE", x.getBits(8), 0);
        Check.reading(in + "a byte is asked for", x, 0x12345678, 0xFFFFFF00L, 5);
    }

    private static void twoBytesAtOnce(int form) {
        String in = "form " + form + ": RANGE is 2048, ";
        RangeCoders x = with2To24(form);
        x.put(0, 0);
        x.bits(0, 5);
        x.put(1, 0);
        x.put(2, 0);
        Check.message(in + "two bytes come", x, 0, 0x8000000);
        Check.due(in + "two bytes and the last four", x.end(), 6);
        Given.reading(x, 0, 0xABCDEF01);
        x.get(0);
        x.getBits(5);
        x.get(1);
        Check.due(in + "sign", x.get(2), 0);
        Check.reading(in + "two bytes are asked for", x, 0xABCD, 0x8000000, 6);
    }

    // ---- "BAD if v is t or more; the sign is that with c not above v, v below c + f (the VALUE is v)"

    /** r is 55555555h; sign 1 has an F of 0, so v of 1 is sign 2. */
    private static void shareOfTheSign(int form) {
        RangeCoders x = Given.counts(form, 1, 0, 2);
        long[][] due = {{0, 0}, {0x55555554L, 0}, {0x55555555L, 2}, {0xAAAAAAA9L, 2}, {0xAAAAAAAAL, 2}, {0xFFFFFFFEL, 2},
            {0xFFFFFFFFL, -5}};
        for (long[] each : due) {
            String in = "form " + form + ": CODE " + Long.toHexString(each[0]) + ", ";
            Given.reading(x, (int) each[0], 0x11223344);
            Check.due(in + "CODE is without sign", x.state(2), each[0]);
            Check.due(in + "sign", x.get(0), each[1]);
            Check.due(in + "BAD", x.told(6), each[1] < 0 ? 1 : 0);
            Check.due(in + "items read", x.told(4), each[1] < 0 ? 0 : 1);
            long range = each[1] < 0 ? FULL : each[1] == 0 ? 0x55555555L : 0xAAAAAAAAL;
            long c = each[1] == 2 ? 0x55555555L : 0;
            Check.reading(in + "then", x, form == 0 ? each[0] - c : each[0], range, 4);
            Check.due(in + "LOW", x.state(3), form == 1 ? c : 0);
        }
    }

    /** r is FFFFFh for 12 bits, 7FFFFFFFh for one. */
    private static void shareOfTheValue(int form) {
        long[][] due = {{12, 0, 0}, {12, 0xFFFFE, 0}, {12, 0xFFFFF, 1}, {12, 0xFFFFEFFFL, 4095}, {12, 0xFFFFF000L, -5},
            {12, FULL, -5}, {1, 0x7FFFFFFE, 0}, {1, 0x7FFFFFFF, 1}, {1, 0xFFFFFFFDL, 1}, {1, 0xFFFFFFFEL, -5}, {1, FULL, -5}};
        for (long[] each : due) {
            String in = "form " + form + ": " + each[0] + " bits of CODE " + Long.toHexString(each[1]) + ", ";
            RangeCoders x = new RangeCoders(form, 4);
            Given.reading(x, (int) each[1]);
            Check.due(in + "VALUE", x.getBits((int) each[0]), each[2]);
            Check.due(in + "BAD", x.told(6), each[2] < 0 ? 1 : 0);
            if (each[2] < 0) Check.reading(in + "nothing changes", x, each[1], FULL, 4);
            if (each[2] < 0) Check.due(in + "LOW", x.state(3), 0);
        }
    }

    private static void badFromThenOn(int form) {
        String in = "form " + form + ": BAD behind an item, ";
        RangeCoders x = Given.counts(form, 1, 1, 1);
        Given.model(x, 0, 0);
        Given.reading(x, 0, 0x01020304);
        Check.due(in + "a sign", x.get(0), 0);
        Check.due(in + "a VALUE", x.getBits(12), 0);
        long code = x.state(2);
        long range = x.state(4);
        Check.due(in + "t is 0", x.get(1), -5);
        Check.reading(in + "nothing changes", x, code, range, 5);
        Check.due(in + "items read", x.told(4), 2);
        Check.due(in + "a good sign", x.get(0), -5);
        Check.due(in + "a good VALUE", x.getBits(1), -5);
        x.octets(0);
        x.spoil(0, 1);
        x.begin();
        Check.due(in + "BAD still", x.getBits(1), -5);
        x.read();
        Check.due(in + "till the next reading", x.get(0), 0);
    }

    // ---- form 0, SHIFTED: "if LOW is below FF000000h, or 2^32 at least"

    /** CACHE is 7Fh, two are PENDING, LOW is FF000000h, RANGE 7FFF0000h; with 6 bits more 1FFFC00h. */
    private static RangeCoders withPending(int... counts) {
        RangeCoders x = Given.counts(0, counts);
        x.bits(1, 1);
        x.bits(0, 12);
        x.bits(0, 12);
        Check.message("two are PENDING", x, 0xFF000000L, 0x7FFF0000L);
        return x;
    }

    private static void pendingReadAgain(String in, RangeCoders x) {
        Given.readingOfOut(x);
        Check.due(in + "1 of 1", x.getBits(1), 1);
        Check.due(in + "0 of 12", x.getBits(12), 0);
        Check.due(in + "0 of 12 again", x.getBits(12), 0);
    }

    private static void lowOfFF000000() {
        String in = "LOW is FF000000h: ";
        RangeCoders x = withPending(1, 1);
        x.bits(0, 8);
        Check.message(in + "one more is PENDING", x, 0, 0x7FFF0000L);
        x.end();
        Check.bytes(in + "no carry", x, 0x7F, 0xFF, 0xFF, 0xFF, 0, 0, 0, 0);
        pendingReadAgain(in, x);
        Check.due(in + "0 of 8", x.getBits(8), 0);
    }

    /** r is 1FFFC00h BY 8192 = 4095, c 4097: LOW grows by FFFFFFh. */
    private static void lowOfFFFFFFFF() {
        String in = "LOW is FFFFFFFFh: ";
        RangeCoders x = withPending(4095, 2, 4095);
        x.bits(0, 6);
        x.put(0, 2);
        Check.message(in + "one more is PENDING", x, 0xFFFFFF00L, 0xFFE00100L);
        x.bits(1, 1);
        Check.message(in + "then a carry", x, 0x17FEFFF80L, 0x7FF00080L);
        x.end();
        Check.bytes(in + "all PENDING have it", x, 0x80, 0, 0, 0, 0x7F, 0xEF, 0xFF, 0x80);
        pendingReadAgain(in, x);
        Check.due(in + "0 of 6", x.getBits(6), 0);
        Check.due(in + "sign 2", x.get(0), 2);
        Check.due(in + "1 of 1 at last", x.getBits(1), 1);
    }

    /** r is 1FFFC00h BY 8190 = 4096, c 4096: LOW grows by 2^24. */
    private static void lowOf2To32() {
        String in = "LOW is 2^32: ";
        RangeCoders x = withPending(4095, 1, 4094);
        x.bits(0, 6);
        x.put(0, 2);
        Check.message(in + "the carry is gone", x, 0, 0xFFE00000L);
        x.end();
        Check.bytes(in + "CACHE and PENDING have it", x, 0x80, 0, 0, 0, 0, 0, 0, 0);
        pendingReadAgain(in, x);
        Check.due(in + "0 of 6", x.getBits(6), 0);
        Check.due(in + "sign 2", x.get(0), 2);
    }

    /** LOW is FDFFFF81h, r 1FFFFFFh BY 7035 = 4769, c 3518. */
    private static void lowBelowFF000000() {
        String in = "LOW is FEFFFFFFh: ";
        RangeCoders x = Given.counts(0, 3518, 3517);
        x.bits(127, 7);
        x.put(0, 1);
        Check.message(in + "CACHE is FEh", x, 0xFFFFFF00L, 0xFFEDDD00L);
        x.bits(1, 1);
        Check.message(in + "then a carry", x, 0x17FF6ED80L, 0x7FF6EE80L);
        x.end();
        Check.bytes(in + "CACHE has it", x, 0xFF, 0x7F, 0xF6, 0xED, 0x80);
        Given.readingOfOut(x);
        Check.due(in + "127 of 7", x.getBits(7), 127);
        Check.due(in + "sign 1", x.get(0), 1);
        Check.due(in + "1 of 1", x.getBits(1), 1);
    }

    /** "CACHE (if there is one)": the first byte is PENDING, and no CACHE stands ahead of it. */
    private static void pendingWithoutCache() {
        RangeCoders x = new RangeCoders(0, 4);
        x.bits(4095, 12);
        Check.message("PENDING without a CACHE", x, 0xEFF00100L, 0xFFFFF00L);
        x.end();
        Check.bytes("PENDING without a CACHE", x, 0xFF, 0xEF, 0xF0, 0x01, 0);
        Given.readingOfOut(x);
        Check.due("PENDING without a CACHE: read", x.getBits(12), 4095);
    }

    /** "no CACHE, nothing PENDING": also where the message before was not ENDED. */
    private static void pendingOfNoMessage() {
        RangeCoders x = withPending(1, 1);
        x.begin();
        Check.message("begun anew", x, 0, FULL);
        x.bits(0, 8);
        x.end();
        Check.bytes("nothing PENDING is left", x, 0, 0, 0, 0, 0);
        x.begin();
        x.bits(4095, 12);
        x.end();
        Check.bytes("no CACHE is left", x, 0xFF, 0xEF, 0xF0, 0x01, 0);
        RangeCoders y = withPending(1, 1);
        y.begin();
        y.bits(4095, 12);
        y.end();
        Check.bytes("neither is left", y, 0xFF, 0xEF, 0xF0, 0x01, 0);
    }

    // ---- form 1: "or else RANGE is below 2^16 (then it becomes the lowest 16 bits of 0 - LOW first)"

    /** LOW is 7FFFFFFFh, RANGE 7FFFFh: byte 3 is not the same. */
    private static RangeCoders withNarrow() {
        RangeCoders x = new RangeCoders(1, 4);
        x.bits(1, 1);
        x.bits(0, 12);
        Check.message("byte 3 is not the same", x, 0x7FFFFFFFL, 0x7FFFF);
        return x;
    }

    private static void rangeOf2To16() {
        RangeCoders wide = withNarrow();
        wide.bits(0, 2);
        Check.message("RANGE is 1FFFFh: it stays", wide, 0x7FFFFFFFL, 0x1FFFF);
        Check.due("no byte but the last four", wide.end(), 4);
        RangeCoders x = withNarrow();
        x.bits(0, 12);
        Check.message("RANGE is 2^16: it stays", x, 0xFFFF0000L, 0x10000);
        Check.due("two bytes and the last four", x.end(), 6);
    }

    private static void rangeBelow2To16() {
        RangeCoders x = withNarrow();
        x.bits(0, 3);
        Check.message("RANGE is FFFFh: it is cut off, to 1 and to 100h", x, 0xFFFF0000L, 0x10000);
        x.end();
        Check.bytes("two bytes and the last four", x, 0x7F, 0xFF, 0xFF, 0xFF, 0, 0);
        Given.readingOfOut(x);
        Check.due("1 of 1", x.getBits(1), 1);
        Check.due("0 of 12", x.getBits(12), 0);
        Check.due("LOW of the reading", x.state(3), 0x7FFFFFFFL);
        Check.reading("byte 3 is not the same", x, 0x7FFFFFFFL, 0x7FFFF, 4);
        Check.due("0 of 3", x.getBits(3), 0);
        Check.due("LOW of the reading", x.state(3), 0xFFFF0000L);
        Check.reading("two bytes are asked for", x, 0xFFFF0000L, 0x10000, 6);
    }

    /** LOW + RANGE is 2^32, so 0: byte 3 of it is not LOW's. */
    private static void wrappedSum() {
        RangeCoders x = withNarrow();
        x.bits(0, 12);
        x.bits(1, 1);
        Check.message("8000h of 10000h is cut off to 8000h", x, 0xFF800000L, 0x800000);
        x.bits(1, 1);
        Check.message("LOW + RANGE wraps, and RANGE is wide", x, 0xFFC00000L, 0x400000);
        x.end();
        Check.bytes("wrapped", x, 0x7F, 0xFF, 0xFF, 0xFF, 0xC0, 0, 0);
    }

    /** CODE has the byte behind LOW's: CODE - LOW wraps to 10000h, which is t times r. */
    private static void codeBelowLow() {
        RangeCoders x = new RangeCoders(1, 4);
        Given.reading(x, 0x80000000, 0);
        Check.due("1 of 1", x.getBits(1), 1);
        Check.due("0 of 12", x.getBits(12), 0);
        Check.due("0 of 12 again", x.getBits(12), 0);
        Check.reading("CODE is below LOW", x, 0, 0x10000, 6);
        Check.due("LOW", x.state(3), 0xFFFF0000L);
        Check.due("v is 2", x.getBits(1), -5);
        Check.reading("nothing changes", x, 0, 0x10000, 6);
        Check.due("LOW stays", x.state(3), 0xFFFF0000L);
        Given.reading(x, 0x7FFFFFFF, 0xFFFF0000);
        x.getBits(1);
        x.getBits(12);
        x.getBits(12);
        Check.due("CODE - LOW is FFFFh", x.getBits(1), 1);
    }
}
