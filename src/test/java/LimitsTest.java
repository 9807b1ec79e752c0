import java.util.ArrayList;
import java.util.List;

/** The bounds that all forms share: the constructor's numbers, the 512th call, OUT and IN that are empty or at an end. */
public final class LimitsTest {
    public static void main(String[] args) {
        nearestForm();
        nearestShift();
        for (int form = 0; form <= 4; form++) {
            shiftOfOtherForms(form);
            lastOf512Calls(form);
            shorterOut(form);
            emptyOutAndIn(form);
            takesInMidMessage(form);
            firstBytesOfOut(form);
            pastIn(form);
            octetsInReading(form);
            spoiltInReading(form);
            messageAndReadingApart(form);
            readAgain(form);
            badTillReadOrTake(form);
            numbersWithoutSign(form);
        }
        Check.finish("LimitsTest");
    }

    // ---- "FORMS (the constructor's: the nearest)", "SHIFT is 1 .. 10 (the nearest; form 2 alone)"

    /** What an object shows in a run that each form and each SHIFT answers in its own way. */
    private static List<Long> trace(int form, int shift) {
        RangeCoders x = new RangeCoders(form, shift);
        List<Long> seen = new ArrayList<>();
        x.model(5);
        x.count(0, 3, 40);
        for (int i = 0; i < 12; i++) seen.add((long) x.put(0, i % 3 == 2 ? 1 : 3));
        seen.add((long) x.bits(77, 8));
        seen.add((long) x.bits(0, 10));
        for (int i = 0; i < 8; i++) seen.add((long) x.chance(0, i));
        for (int what = 0; what < 2; what++) seen.add(x.state(what));
        seen.add((long) x.end());
        for (int i = 0; i < x.told(2); i++) seen.add((long) x.out(i));
        Given.readingOfOut(x);
        for (int i = 0; i < 12; i++) seen.add((long) x.get(0));
        seen.add((long) x.getBits(8));
        for (int what = 2; what <= 5; what++) seen.add(x.state(what));
        return seen;
    }

    private static void alike(String what, List<Long> one, List<Long> other, boolean due) {
        Check.due(what, one.equals(other) ? 1 : 0, due ? 1 : 0);
    }

    private static void nearestForm() {
        int[] below = {Integer.MIN_VALUE, -5, -1};
        for (int form : below) alike("form " + form + " is 0", trace(form, 4), trace(0, 4), true);
        int[] above = {5, 6, 9, Integer.MAX_VALUE};
        for (int form : above) alike("form " + form + " is 4", trace(form, 4), trace(4, 4), true);
        for (int form = 0; form <= 4; form++) {
            for (int other = 0; other < form; other++) {
                alike("form " + form + " is not " + other, trace(form, 4), trace(other, 4), false);
            }
        }
    }

    private static void nearestShift() {
        int[] below = {Integer.MIN_VALUE, -1, 0};
        for (int shift : below) alike("shift " + shift + " is 1", trace(2, shift), trace(2, 1), true);
        int[] above = {11, 12, 32, 33, Integer.MAX_VALUE};
        for (int shift : above) alike("shift " + shift + " is 10", trace(2, shift), trace(2, 10), true);
        for (int shift = 2; shift <= 10; shift++) {
            alike("shift " + shift + " is not the one below", trace(2, shift), trace(2, shift - 1), false);
        }
    }

    private static void shiftOfOtherForms(int form) {
        if (form == 2) return;
        int[] shifts = {Integer.MIN_VALUE, 0, 1, 10, 11, Integer.MAX_VALUE};
        for (int shift : shifts) alike("form " + form + ", shift " + shift, trace(form, shift), trace(form, 4), true);
    }

    // ---- "An object is used for at most 512 calls"

    private static void lastOf512Calls(int form) {
        String in = "form " + form + ", 512 calls: ";
        RangeCoders x = new RangeCoders(form, 5);
        x.model(3);
        for (int i = 1; i <= 253; i++) Check.due(in + "item " + i, x.put(0, i * i % 3), i);
        Check.due(in + "OUT", x.end() > 8 ? 1 : 0, 1);
        Check.due(in + "IN", x.take(1) > 8 ? 1 : 0, 1);
        Check.due(in + "a reading", x.read() > 8 ? 1 : 0, 1);
        for (int i = 1; i <= 253; i++) Check.due(in + "sign " + i, x.get(0), i * i % 3);
        Check.due(in + "the 511th", x.told(4), 253);
        Check.due(in + "the 512th", x.told(6), 0);
    }

    // ---- OUT

    private static void shorterOut(int form) {
        String in = "form " + form + ": ";
        RangeCoders x = new RangeCoders(form, 4);
        for (int i = 0; i < 20; i++) x.bits(511, 9);
        int longer = x.end();
        x.begin();
        Check.due(in + "OUT stays, its last byte too", x.out(longer - 1) >= 0 ? 1 : 0, 1);
        int shorter = x.end();
        Check.due(in + "OUT of nothing", shorter, form == 4 ? 2 : 4);
        Check.due(in + "its last byte", x.out(shorter - 1), 0);
        Check.due(in + "none of the old ones", x.out(shorter), -1);
        Check.due(in + "nor the last of them", x.out(longer - 1), -1);
        Check.due(in + "all of it", x.take(1), shorter);
        Check.due(in + "more than it has", x.take(shorter + 3), -2);
    }

    private static void emptyOutAndIn(int form) {
        String in = "form " + form + ", nothing there: ";
        RangeCoders x = new RangeCoders(form, 4);
        x.bits(1, 1);
        Check.due(in + "OUT ahead of the end", x.out(0), -1);
        Check.due(in + "take(0)", x.take(0), 0);
        Check.due(in + "take(1)", x.take(1), 0);
        Check.due(in + "take(2)", x.take(2), 0);
        Check.due(in + "take(3)", x.take(3), -2);
        Check.due(in + "spoil(0, 0)", x.spoil(0, 0), -1);
        Check.due(in + "read()", x.read(), 0);
        Check.due(in + "a reading all the same", x.told(7), 1);
        Check.due(in + "take(0) ends it", x.take(0), 0);
        Check.due(in + "no reading", x.told(7), 0);
        Check.due(in + "begin()", x.begin(), 1);
        Check.due(in + "begin() again", x.begin(), 0);
    }

    /** OUT is the message's that was ENDED, not of the one that is put. */
    private static void takesInMidMessage(int form) {
        String in = "form " + form + ", a message on its way: ";
        RangeCoders x = new RangeCoders(form, 4);
        x.bits(300, 9);
        int bytes = x.end();
        x.begin();
        for (int i = 0; i < 12; i++) x.bits(0, 9);
        Check.due(in + "take(1)", x.take(1), bytes);
        x.read();
        Check.due(in + "what was ENDED", x.getBits(9), 300);
        Check.due(in + "its items", x.told(0), 12);
        x.bits(5, 9);
        Check.due(in + "end() leaves the reading", x.end() > 0 ? x.told(7) : 0, 1);
        Check.due(in + "IN is as it was", x.told(3), bytes);
        Check.due(in + "items read", x.told(4), 1);
    }

    /** "or its first n bytes (n + 2)": every n. */
    private static void firstBytesOfOut(int form) {
        String in = "form " + form + ": ";
        RangeCoders x = new RangeCoders(form, 4);
        for (int i = 0; i < 5; i++) x.bits(400 + i, 9);
        int bytes = x.end();
        for (int n = 0; n <= bytes; n++) {
            Check.due(in + "the first " + n, x.take(n + 2), n);
            for (int i = 0; i < n; i++) Check.due(in + "byte " + i + " of " + n, x.spoil(i, 0), x.out(i));
            Check.due(in + "none behind " + n, x.spoil(n, 0), -1);
        }
        Check.due(in + "one more than all", x.take(bytes + 3), -2);
        Check.due(in + "IN stays", x.told(3), bytes);
    }

    // ---- IN: "READING past IN gives 0s", "(A reading that goes on has them, too.)"

    private static void pastIn(int form) {
        String in = "form " + form + ", past IN: ";
        RangeCoders x = new RangeCoders(form, 4);
        x.model(4);
        if (form == 3) x.octets(0x00800000);
        x.read();
        Check.due(in + "asked for at first", x.told(5), form == 4 ? 2 : 4);
        Check.due(in + "not BAD", x.told(6), 0);
        for (int i = 0; i < 30; i++) Check.due(in + "a VALUE", x.getBits(8), 0);
        Check.due(in + "a sign", x.get(0), 0);
        Check.due(in + "items read", x.told(4), 31);
        Check.due(in + "not BAD still", x.told(6), 0);
        Check.due(in + "asked for", x.told(5) > 30 ? 1 : 0, 1);
        Check.due(in + "IN is as it was", x.told(3), form == 3 ? 4 : 0);
    }

    /** A byte that was asked for ahead of its coming was a 0; the one behind it is read as it came. */
    private static void octetsInReading(int form) {
        if (form == 4) return;
        String in = "form " + form + ", octets in a reading: ";
        RangeCoders x = new RangeCoders(form, 4);
        Given.reading(x, form == 3 ? 0x00800000 : 0);
        x.getBits(8);
        Check.due(in + "byte 4 was asked for", x.told(5), 5);
        Check.due(in + "four more", x.octets(0xAABBCCDD), 8);
        Check.due(in + "they leave the reading", x.told(5), 5);
        x.getBits(8);
        Check.due(in + "byte 5 was asked for", x.told(5), 6);
        Check.due(in + "byte 5 came", x.state(form == 3 ? 5 : 2) & 255, 0xBB);
        x.getBits(8);
        Check.due(in + "byte 6 came", x.state(form == 3 ? 5 : 2) & 255, 0xCC);
    }

    /** A byte that was asked for is read as it was then. */
    private static void spoiltInReading(int form) {
        String in = "form " + form + ", spoilt in a reading: ";
        RangeCoders x = new RangeCoders(form, 4);
        Given.reading(x, 0x00800000, 0);
        int code = form < 3 ? 2 : 5;
        long before = x.state(code);
        Check.due(in + "byte 0", x.spoil(0, 255), 255);
        Check.due(in + "byte 7", x.spoil(7, 255), 255);
        Check.due(in + "it was read", x.state(code), before);
        Check.due(in + "byte 4", x.spoil(4, 0x5A), 0x5A);
        if (form == 4) {
            Check.due(in + "bits up to byte 3", x.getBits(9) + x.getBits(9) + x.getBits(5), 0);
            Check.due(in + "bits of byte 4", x.getBits(8), 0x5A);
        } else {
            x.getBits(8);
            Check.due(in + "it was not read", x.state(code) & 255, 0x5A);
        }
        x.read();
        Check.due(in + "byte 0 in a new reading", x.state(code), form == 4 ? 512 + 0x1FF : 0xFF800000L);
    }

    // ---- a message and a reading at once

    private static void messageAndReadingApart(int form) {
        String in = "form " + form + ", a message in a reading: ";
        RangeCoders alone = new RangeCoders(form, 4);
        RangeCoders both = new RangeCoders(form, 4);
        for (RangeCoders x : new RangeCoders[] {alone, both}) {
            x.model(3);
            for (int i = 0; i < 30; i++) x.put(0, i % 5 == 0 ? 2 : i % 2);
            x.end();
            Given.readingOfOut(x);
        }
        both.begin();
        for (int i = 0; i < 30; i++) {
            Check.due(in + "item", both.put(0, 2), i + 1);
            Check.due(in + "sign " + i, both.get(0), alone.get(0));
        }
        for (int what = 2; what <= 5; what++) Check.due(in + "state(" + what + ")", both.state(what), alone.state(what));
        alone.begin();
        for (int i = 0; i < 30; i++) alone.put(0, 2);
        for (int what = 0; what <= 1; what++) Check.due(in + "state(" + what + ")", both.state(what), alone.state(what));
        Check.due(in + "end()", both.end(), alone.end());
        for (int i = 0; i < alone.told(2); i++) Check.due(in + "out(" + i + ")", both.out(i), alone.out(i));
    }

    /** "A reading of IN begins": also where one goes on, which is over then. */
    private static void readAgain(int form) {
        String in = "form " + form + ", read() again: ";
        RangeCoders x = new RangeCoders(form, 1);
        x.model(3);
        for (int i = 0; i < 20; i++) x.put(0, i % 4 == 3 ? 1 : 2);
        x.end();
        x.take(1);
        x.read();
        long[] first = {x.state(2), x.state(3), x.state(4), x.state(5), x.told(5)};
        for (int i = 0; i < 20; i++) Check.due(in + "sign " + i, x.get(0), i % 4 == 3 ? 1 : 2);
        Check.due(in + "items read", x.told(4), 20);
        Check.due(in + "bytes of IN", x.read(), x.told(3));
        Check.due(in + "no items read", x.told(4), 0);
        for (int what = 2; what <= 5; what++) Check.due(in + "state(" + what + ")", x.state(what), first[what - 2]);
        Check.due(in + "bytes asked for", x.told(5), first[4]);
        for (int i = 0; i < 20; i++) Check.due(in + "sign " + i + " again", x.get(0), i % 4 == 3 ? 1 : 2);
    }

    // ---- "BAD: the reading is BAD from then on"

    private static void badTillReadOrTake(int form) {
        String in = "form " + form + ", BAD: ";
        RangeCoders x = new RangeCoders(form, 4);
        x.model(2);
        x.count(0, 0, 0);
        x.count(0, 1, 0);
        Given.reading(x, form == 3 ? 0x007FFFFF : -1);
        Check.due(in + "-5", form == 4 ? x.get(0) : x.getBits(12), -5);
        Check.due(in + "told(6)", x.told(6), 1);
        Check.due(in + "told(7)", x.told(7), 1);
        x.octets(0);
        x.spoil(0, 255);
        x.bits(1, 1);
        x.end();
        x.begin();
        x.model(2);
        Check.due(in + "a VALUE from then on", x.getBits(1), -5);
        Check.due(in + "a sign from then on", x.get(1), -5);
        Check.due(in + "no such model", x.get(2), -1);
        Check.due(in + "no such VALUE", x.getBits(0), -2);
        Check.due(in + "a reading goes on", x.count(1, 0, 2), -3);
        Check.due(in + "told(4)", x.told(4), 0);
        x.read();
        Check.due(in + "not with a new reading", x.told(6), 0);
        Given.reading(x, form == 3 ? 0x007FFFFF : -1);
        if (form == 4) x.get(0);
        else x.getBits(12);
        Check.due(in + "again", x.told(6), 1);
        x.take(0);
        Check.due(in + "not without a reading", x.told(6), 0);
        Check.due(in + "no reading", x.getBits(1), -3);
    }

    // ---- "Numbers of 32 bits are without sign"

    private static void numbersWithoutSign(int form) {
        String in = "form " + form + ", without sign: ";
        RangeCoders x = new RangeCoders(form, 4);
        Check.due(in + "octets(MIN_VALUE)", x.octets(Integer.MIN_VALUE), 4);
        Check.due(in + "its highest byte", x.spoil(0, 0), 0x80);
        Check.due(in + "octets(-1)", x.octets(-1), 8);
        Check.due(in + "its lowest byte", x.spoil(7, 0), 255);
        x.read();
        Check.due(in + "CODE", x.state(2), form < 3 ? 0x80000000L : 0);
        Check.due(in + "RANGE", x.state(4), form < 3 ? 0xFFFFFFFFL : 0);
        Check.due(in + "X", x.state(5), form == 3 ? 0x80000000L : form == 4 ? 512 + 256 : 0);
        Check.due(in + "a bit", x.getBits(1), form < 3 ? 1 : 0);
    }
}
