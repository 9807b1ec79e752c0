import java.util.Arrays;

/** What forms 3 and 4 share, at its bounds: F SCALED to M (4096, 512), models without signs, the last item first. */
public final class ScaledTest {
    private final int form;
    private final int m;

    private ScaledTest(int form, int m) {
        this.form = form;
        this.m = m;
    }

    public static void main(String[] args) {
        for (ScaledTest each : new ScaledTest[] {new ScaledTest(3, 4096), new ScaledTest(4, 512)}) {
            each.zeroCounts();
            each.oneAtLeast();
            each.sumAboveM();
            each.whatLacks();
            each.noSigns();
            each.countsAheadOfFirstItem();
            each.lastItemFirst();
        }
        Check.finish("ScaledTest");
    }

    private RangeCoders counts(int... counts) {
        return Given.counts(form, counts);
    }

    private String in(String what) {
        return "form " + form + ": " + what;
    }

    private int each(int ofForm3, int ofForm4) {
        return form == 3 ? ofForm3 : ofForm4;
    }

    /** "a COUNT of 0 is 0" */
    private void zeroCounts() {
        RangeCoders x = counts(0, 1, 0, 1);
        Check.chances(in("COUNTS of 0"), x, 0, m / 2, 0, m / 2);
        Check.due(in("an F of 0"), x.put(0, 0), -3);
        Check.due(in("an F above 0"), x.put(0, 3), 1);
        Check.chances(in("one COUNT above 0"), counts(0, 0, 4095), 0, 0, m);
        Check.chances(in("one COUNT of 1"), counts(1, 0), m, 0);
    }

    /** "others COUNT M BY the sum, 1 at least": M BY M is 1, M BY (M + 1) is 0. */
    private void oneAtLeast() {
        Check.chances(in("1 of M"), counts(1, m - 1), 1, m - 1);
        Check.chances(in("1 of M + 1"), counts(1, m - 1, 1), 1, m - 2, 1);
        Check.chances(in("1 of 8192"), counts(1, 4095, 4095, 1), 1, m / 2 - 1, m / 2 - 1, 1);
        int least = 4096 / m;
        Check.chances(in("a COUNT that makes 2"), counts(2 * least, 4096 - 2 * least), 2, m - 2);
        if (form == 3) return;
        Check.chances(in("a COUNT just below that"), counts(2 * least - 1, 4097 - 2 * least), 1, m - 1);
        Check.chances(in("a COUNT that makes 1"), counts(least, 4096 - least), 1, m - 1);
        Check.chances(in("a COUNT that makes 0"), counts(least - 1, 4097 - least), 1, m - 1);
    }

    /**
     * "as long as their sum is above M, the greatest F (of several the first) loses 1": 2032 twice and 62 of 1 are 4126;
     * 254 twice and 62 of 1 are 570; with one sign less they are odd, and the first loses one more.
     */
    private void sumAboveM() {
        int[] many = new int[64];
        Arrays.fill(many, 1);
        many[5] = 4095;
        many[60] = 4095;
        RangeCoders even = counts(many);
        Check.due(in("an even number too many: the first"), even.chance(0, 5), each(2017, 225));
        Check.due(in("an even number too many: the second"), even.chance(0, 60), each(2017, 225));
        Check.due(in("an even number too many: one of 1"), even.chance(0, 63), 1);
        many[63] = 0;
        RangeCoders odd = counts(many);
        Check.due(in("an odd number too many: the first"), odd.chance(0, 5), each(2017, 225));
        Check.due(in("an odd number too many: the second"), odd.chance(0, 60), each(2018, 226));
        Check.due(in("an odd number too many: a COUNT of 0"), odd.chance(0, 63), 0);
        Check.chances(in("just M"), counts(1, 1, 2), m / 4, m / 4, m / 2);
    }

    /** "what lacks to M comes to the greatest (the first)" */
    private void whatLacks() {
        int third = m / 3;
        int most = m - 2 * third;
        Check.chances(in("to the first of three"), counts(1, 1, 1), most, third, third);
        Check.chances(in("to the first of the greatest"), counts(0, 1, 1, 1), 0, most, third, third);
        Check.chances(in("to the greatest"), counts(1, 2, 3, 1), m / 7, 2 * m / 7, each(1756, 220), m / 7);
        Check.chances(in("2 of 8192"), counts(2, 4095, 4095), 1, m / 2, m / 2 - 1);
    }

    /** "All COUNTS 0: it has no signs" */
    private void noSigns() {
        RangeCoders x = counts(0, 0);
        Check.chances(in("all COUNTS 0"), x, 0, 0);
        Check.due(in("no sign to put"), x.put(0, 1), -3);
        x.bits(1, 1);
        x.end();
        Given.readingOfOut(x);
        long before = x.state(5);
        Check.due(in("no sign to get"), x.get(0), -5);
        Check.due(in("X stays"), x.state(5), before);
        Check.due(in("asked for"), x.told(5), each(4, 2));
        Check.due(in("items read"), x.told(4), 0);
        Check.due(in("BAD"), x.told(6), 1);
        Check.due(in("BAD from then on"), x.getBits(1), -5);
        x.take(1);
        x.count(0, 1, 1);
        x.read();
        Check.due(in("with a sign"), x.get(0), 1);
        Check.due(in("and the VALUE"), x.getBits(1), 1);
    }

    /** "its COUNTS as the message (or reading) begins", "behind ENDED as it ended, till begin()" */
    private void countsAheadOfFirstItem() {
        RangeCoders x = counts(1, 1);
        x.begin();
        x.count(0, 0, 3);
        Check.chances(in("ahead of the first item"), x, 3 * m / 4, m / 4);
        x.put(0, 1);
        Check.due(in("behind it"), x.count(0, 0, 1), -3);
        Check.chances(in("a message teaches nothing"), x, 3 * m / 4, m / 4);
        x.end();
        x.count(0, 0, 1);
        Check.chances(in("as it ended"), x, 3 * m / 4, m / 4);
        x.begin();
        Check.chances(in("as the next one begins"), x, m / 2, m / 2);
        x.put(0, 1);
        x.end();
        if (form == 3) Check.bytes(in("as the next one begins"), x, 1, 0, 8, 0);
        if (form == 4) Check.bytes(in("as the next one begins"), x, 0, 0x80);
    }

    /** "The items are taken from the last to the first": so the first is read first, and X ends as it began. */
    private void lastItemFirst() {
        RangeCoders x = counts(1, 3);
        x.put(0, 1);
        x.bits(6, 3);
        x.put(0, 0);
        x.end();
        Given.readingOfOut(x);
        Check.due(in("the first item"), x.get(0), 1);
        Check.due(in("the second"), x.getBits(3), 6);
        Check.due(in("the third"), x.get(0), 0);
        Check.due(in("X is as it was"), x.state(5), each(1 << 23, 512));
    }
}
